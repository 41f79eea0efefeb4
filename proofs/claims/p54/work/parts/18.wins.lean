set_option maxRecDepth 100000 in
set_option maxHeartbeats 4000000 in
theorem c_X8_hasPosition {g : xG} (hG : GK g) {i : Nat} (hi : i < 11) {m : Mem} {n : Nat} (hW : WR m i n) {x : Int32} : CC g yX8_hasPosition (.code yX8_hasPosition cX8_hasPosition 2 (some .boolean)) 1 0 0 [.ref (ad g (LA i + 2)), .int x] m (rI (fun v m2 => v = (if 0 ≤ x ∧ x < nI n then 1 else 0) ∧ m2 = m)) noX := by
  obtain ⟨hW, hn⟩ := hW
  refine CC.mk hG RX8 rfl (by decide +kernel) rfl (Nat.le_of_ble_eq_true rfl) (fun sz B hB hX => ?_)
  show V g B 0 0 _ (hp g m) sz 0 [some (.ref (ad g (LA i + 2))), some (.int x)] []
  refine V.iload_n (pc := 0) hB dX8_hasPosition_0 rfl ?_
  refine V.if_lt (pc := 1) (tgt := 16) hB dX8_hasPosition_1 (by decide) (fun c_1 => ?_) (fun c_1 => ?_)
  · refine V.iconst (pc := 16) (v := 0) hB dX8_hasPosition_16 rfl ?_
    refine V.retI (pc := 17) hB dX8_hasPosition_17 rfl (rfl) (by omega) (by omega) ?_
    first
    | exact ⟨(if_neg (fun z => absurd c_1 (Int32.not_lt.mpr z.1))).symm, rfl⟩
    | exact ⟨(if_neg (fun z => by rw [hW] at c_9; exact absurd z.2 (Int32.not_lt.mpr c_9))).symm, rfl⟩
    | exact ⟨(if_pos ⟨Int32.not_lt.mp c_1, by rw [hW] at c_9; exact Int32.not_le.mp c_9⟩).symm, rfl⟩
  · refine V.iload_n (pc := 4) hB dX8_hasPosition_4 rfl ?_
    refine V.aload_n (pc := 5) hB dX8_hasPosition_5 rfl ?_
    refine V.get (pc := 6) hB fk_Win 2 wf_X8_18 dX8_hasPosition_6 (by decide) (hp_at (ca_Win (by omega) _)) rfl ?_
    refine V.icmp_ge (pc := 9) (tgt := 16) hB dX8_hasPosition_9 (by decide) (fun c_9 => ?_) (fun c_9 => ?_)
    · refine V.iconst (pc := 16) (v := 0) hB dX8_hasPosition_16 rfl ?_
      refine V.retI (pc := 17) hB dX8_hasPosition_17 rfl (rfl) (by omega) (by omega) ?_
      first
      | exact ⟨(if_neg (fun z => absurd c_1 (Int32.not_lt.mpr z.1))).symm, rfl⟩
      | exact ⟨(if_neg (fun z => by rw [hW] at c_9; exact absurd z.2 (Int32.not_lt.mpr c_9))).symm, rfl⟩
      | exact ⟨(if_pos ⟨Int32.not_lt.mp c_1, by rw [hW] at c_9; exact Int32.not_le.mp c_9⟩).symm, rfl⟩
    · refine V.iconst (pc := 12) (v := 1) hB dX8_hasPosition_12 rfl ?_
      refine V.goto (pc := 13) (tgt := 17) hB dX8_hasPosition_13 (by decide) ?_
      refine V.retI (pc := 17) hB dX8_hasPosition_17 rfl (rfl) (by omega) (by omega) ?_
      first
      | exact ⟨(if_neg (fun z => absurd c_1 (Int32.not_lt.mpr z.1))).symm, rfl⟩
      | exact ⟨(if_neg (fun z => by rw [hW] at c_9; exact absurd z.2 (Int32.not_lt.mpr c_9))).symm, rfl⟩
      | exact ⟨(if_pos ⟨Int32.not_lt.mp c_1, by rw [hW] at c_9; exact Int32.not_le.mp c_9⟩).symm, rfl⟩

set_option maxRecDepth 100000 in
set_option maxHeartbeats 4000000 in
theorem c_X8_meet {g : xG} (hG : GK g) {i : Nat} (hi : i < 11) {m : Mem} {n : Nat} (hW : WR m i n) {a b : Int32} : CC g yX8_meet (.code yX8_meet cX8_meet 4 (some .boolean)) 1 0 0 [.ref (ad g (LA i + 2)), .int a, .int b] m (rI (fun v m2 => v = (if meetB (m.1 (LA i + 3)) (m.1 (LA i + 4)) a b n = true then 1 else 0) ∧ m2 = m)) noX := by
  obtain ⟨hW, hn⟩ := hW
  refine CC.mk hG RX8 rfl (by decide +kernel) rfl (Nat.le_of_ble_eq_true rfl) (fun sz B hB hX => ?_)
  show V g B 0 0 _ (hp g m) sz 0 [some (.ref (ad g (LA i + 2))), some (.int a), some (.int b), none] []
  have loop : ∀ q : Nat, q ≤ n → meetB (m.1 (LA i + 3)) (m.1 (LA i + 4)) a b q = false → V g B 0 0 (QM g B 0 0 (rI (fun v m2 => v = (if meetB (m.1 (LA i + 3)) (m.1 (LA i + 4)) a b n = true then 1 else 0) ∧ m2 = m)) noX) (hp g (m)) sz 2 [some (.ref (ad g (LA i + 2))), some (.int a), some (.int b), some (.int (nI q))] [] := by
    refine loop_up (fun q hq ih hf => ?_)
    refine V.iload_n (pc := 2) hB dX8_meet_2 rfl ?_
    refine V.aload_n (pc := 3) hB dX8_meet_3 rfl ?_
    refine V.get (pc := 4) hB fk_Win 2 wf_X8_18 dX8_meet_4 (by decide) (hp_at (ca_Win (by omega) _)) rfl ?_
    refine V.icmp_ge (pc := 7) (tgt := 38) hB dX8_meet_7 (by decide) (fun c_7 => ?_) (fun c_7 => ?_)
    · have hqn : q = n := nge hW (by omega) hq c_7
      refine V.iconst (pc := 38) (v := 0) hB dX8_meet_38 rfl ?_
      refine V.retI (pc := 39) hB dX8_meet_39 rfl (rfl) (by omega) (by omega) ?_
      refine ⟨?_, rfl⟩
      rw [← hqn, hf]
      rfl
    · have hlt : q < n := nlt hW (by omega) hq c_7
      refine V.iload_n (pc := 10) hB dX8_meet_10 rfl ?_
      refine V.aload_n (pc := 11) hB dX8_meet_11 rfl ?_
      refine V.get (pc := 12) hB fk_Win 1 wf_X8_15 dX8_meet_12 (by decide) (hp_at (ca_Win (by omega) _)) rfl ?_
      refine V.iload_n (pc := 15) hB dX8_meet_15 rfl ?_
      refine V.ialdM (pc := 16) hB (ca_WinL (by omega)) dX8_meet_16 (ix_nI (by omega) (by decide)) ?_
      refine V.icmp_gt (pc := 17) (tgt := 32) hB dX8_meet_17 (by decide) (fun c_17 => ?_) (fun c_17 => ?_)
      · refine V.iinc (pc := 32) (v := nI (q + 1)) hB dX8_meet_32 rfl (nI_1 _) (by decide) rfl ?_
        refine V.goto (pc := 35) (tgt := 2) hB dX8_meet_35 (by decide) ?_
        first
        | exact ih hlt (by show (_ || _) = false; rw [hf, Bool.false_or, decide_eq_false (Int32.not_le.mpr c_17)]; rfl)
        | exact ih hlt (by show (_ || _) = false; rw [hf, Bool.false_or, decide_eq_false (Int32.not_le.mpr c_27), Bool.and_false])
      · refine V.iload_n (pc := 20) hB dX8_meet_20 rfl ?_
        refine V.aload_n (pc := 21) hB dX8_meet_21 rfl ?_
        refine V.get (pc := 22) hB fk_Win 0 wf_X8_9 dX8_meet_22 (by decide) (hp_at (ca_Win (by omega) _)) rfl ?_
        refine V.iload_n (pc := 25) hB dX8_meet_25 rfl ?_
        refine V.ialdM (pc := 26) hB (ca_WinF (by omega)) dX8_meet_26 (ix_nI (by omega) (by decide)) ?_
        refine V.icmp_lt (pc := 27) (tgt := 32) hB dX8_meet_27 (by decide) (fun c_27 => ?_) (fun c_27 => ?_)
        · refine V.iinc (pc := 32) (v := nI (q + 1)) hB dX8_meet_32 rfl (nI_1 _) (by decide) rfl ?_
          refine V.goto (pc := 35) (tgt := 2) hB dX8_meet_35 (by decide) ?_
          first
          | exact ih hlt (by show (_ || _) = false; rw [hf, Bool.false_or, decide_eq_false (Int32.not_le.mpr c_17)]; rfl)
          | exact ih hlt (by show (_ || _) = false; rw [hf, Bool.false_or, decide_eq_false (Int32.not_le.mpr c_27), Bool.and_false])
        · refine V.iconst (pc := 30) (v := 1) hB dX8_meet_30 rfl ?_
          refine V.retI (pc := 31) hB dX8_meet_31 rfl (rfl) (by omega) (by omega) ?_
          exact ⟨(if_pos (meetB_stay (Int32.not_lt.mp c_17) (Int32.not_lt.mp c_27) n hlt)).symm, rfl⟩
  refine V.iconst (pc := 0) (v := 0) hB dX8_meet_0 rfl ?_
  refine V.istore_n (pc := 1) hB dX8_meet_1 (by decide) rfl ?_
  exact loop 0 (by omega) rfl

set_option maxRecDepth 100000 in
set_option maxHeartbeats 4000000 in
theorem c_X8_contain {g : xG} (hG : GK g) {i : Nat} (hi : i < 11) {m : Mem} {n : Nat} (hW : WR m i n) {x : Int32} : CC g yX8_contain (.code yX8_contain cX8_contain 2 (some .boolean)) 2 0 0 [.ref (ad g (LA i + 2)), .int x] m (rI (fun v m2 => v = (if meetB (m.1 (LA i + 3)) (m.1 (LA i + 4)) x x n = true then 1 else 0) ∧ m2 = m)) noX := by
  refine CC.mk hG RX8 rfl (by decide +kernel) rfl (Nat.le_of_ble_eq_true rfl) (fun sz B hB hX => ?_)
  show V g B 0 0 _ (hp g m) sz 0 [some (.ref (ad g (LA i + 2))), some (.int x)] []
  refine V.aload_n (pc := 0) hB dX8_contain_0 rfl ?_
  refine V.iload_n (pc := 1) hB dX8_contain_1 rfl ?_
  refine V.iload_n (pc := 2) hB dX8_contain_2 rfl ?_
  refine V.cv (pc := 3) hB cw_X8_meet wm_X8_28 wi_X8_meet ws_X8_meet dX8_contain_3 (c_X8_meet hG hi hW) (hp_at (ca_Win (by omega) _)) fk_Win rfl (by omega) (by decide) rfl (by exact Nat.le_of_ble_eq_true rfl) (by omega) (by omega) kN (kI (fun v_3 m_3 sz h_3 => ?_)) rfl
  obtain ⟨rfl, rfl⟩ := h_3
  refine V.retI (pc := 6) hB dX8_contain_6 rfl (by split <;> rfl) (by omega) (by omega) ?_
  exact ⟨rfl, rfl⟩

theorem set2_4 (m : Mem) (i : Nat) (f1 f2 : Nat → Int32) : (set2 m (LA i + 3) f1 f2).1 (LA i + 4) = f2 := set2_2 m (LA i + 3) f1 f2
theorem set2_up4 (m : Mem) (i : Nat) (f1 f2 f' : Nat → Int32) (j : Nat) (v : Int32) (h : ∀ y, f' y = if y = j then v else f2 y) : up (set2 m (LA i + 3) f1 f2) (LA i + 4) j v = set2 m (LA i + 3) f1 f' := set2_up2 m (LA i + 3) f1 f2 f' j v h
theorem shR_n (f : Nat → Int32) (n : Nat) : shR f n n = f := by funext y; exact if_neg (by omega)
theorem shR_low (f : Nat → Int32) (n p : Nat) : shR f n (p + 1) p = f p := if_neg (by omega)
theorem shR_pred (f : Nat → Int32) {n p : Nat} (h : p < n) : ∀ y, shR f n p y = if y = p + 1 then f p else shR f n (p + 1) y := by
  intro y
  unfold shR
  by_cases e : y = p + 1
  · subst e; rw [if_pos ⟨by omega, by omega⟩, if_pos rfl, Nat.add_sub_cancel]
  · rw [if_neg e]
    by_cases h2 : p < y ∧ y ≤ n
    · rw [if_pos h2, if_pos ⟨by omega, h2.2⟩]
    · rw [if_neg h2, if_neg (fun z => h2 ⟨by omega, z.2⟩)]
theorem ins_at (f : Nat → Int32) (n p : Nat) (v : Int32) : ∀ y, insRow f n p v y = if y = p then v else shR f n p y := fun _ => rfl
theorem rm_self (f : Nat → Int32) (a : Nat) : rmRow f a a = f := by funext y; exact if_neg (by omega)
theorem rm_at (f : Nat → Int32) (a q : Nat) : rmRow f a q (q + 1) = f (q + 1) := if_neg (by omega)
theorem rm_succ (f : Nat → Int32) {a q : Nat} (h : a ≤ q) : ∀ y, rmRow f a (q + 1) y = if y = q then f (q + 1) else rmRow f a q y := by
  intro y
  unfold rmRow
  by_cases e : y = q
  · subst e; rw [if_pos ⟨h, by omega⟩, if_pos rfl]
  · rw [if_neg e]
    by_cases h2 : a ≤ y ∧ y < q
    · rw [if_pos h2, if_pos ⟨h2.1, by omega⟩]
    · rw [if_neg h2, if_neg (fun z => h2 ⟨z.1, by omega⟩)]
theorem insM_eq (i n : Nat) (x z : Int32) (m : Mem) : insM i n x z m = up (set2 m (LA i + 3) (insRow (m.1 (LA i + 3)) n (insPos (m.1 (LA i + 3)) x n) x) (insRow (m.1 (LA i + 4)) n (insPos (m.1 (LA i + 3)) x n) z)) (LA i + 2) 2 (nI (n + 1)) := rfl
theorem rmM_eq (i n a : Nat) (m : Mem) : rmM i n a m = set2 (up m (LA i + 2) 2 (nI (n - 1))) (LA i + 3) (rmRow (m.1 (LA i + 3)) a (n - 1)) (rmRow (m.1 (LA i + 4)) a (n - 1)) := rfl

set_option maxRecDepth 100000 in
set_option maxHeartbeats 4000000 in
theorem c_X8_insert {g : xG} (hG : GK g) {i : Nat} (hi : i < 11) {m : Mem} {n : Nat} (hW : WR m i n) (h6 : n < 6) {x z : Int32} : CC g yX8_insert (.code yX8_insert cX8_insert 4 (some .int)) 1 0 0 [.ref (ad g (LA i + 2)), .int x, .int z] m (rI (fun v m2 => v = nI (n + 1) ∧ m2 = insM i n x z m)) noX := by
  obtain ⟨hW, hn⟩ := hW
  refine CC.mk hG RX8 rfl (by decide +kernel) rfl (Nat.le_of_ble_eq_true rfl) (fun sz B hB hX => ?_)
  show V g B 0 0 _ (hp g m) sz 0 [some (.ref (ad g (LA i + 2))), some (.int x), some (.int z), none] []
  have loop : ∀ p : Nat, p ≤ n → insPos (m.1 (LA i + 3)) x n = insPos (m.1 (LA i + 3)) x p → V g B 0 0 (QM g B 0 0 (rI (fun v m2 => v = nI (n + 1) ∧ m2 = insM i n x z m)) noX) (hp g ((set2 m (LA i + 3) (shR (m.1 (LA i + 3)) n (p)) (shR (m.1 (LA i + 4)) n (p))))) sz 5 [some (.ref (ad g (LA i + 2))), some (.int x), some (.int z), some (.int (nI p))] [] := by
    refine loop_dn (fun p ih hp hip => ?_)
    refine V.iload_n (pc := 5) hB dX8_insert_5 rfl ?_
    refine V.if_le (pc := 6) (tgt := 55) hB dX8_insert_6 (by decide) (fun c_6 => ?_) (fun c_6 => ?_)
    · have hp0 : p = 0 := Decidable.byContradiction (fun w => nI_nle (by omega) (by omega) c_6)
      have hpos : insPos (m.1 (LA i + 3)) x n = p := by rw [hip, hp0]; rfl
      refine V.aload_n (pc := 55) hB dX8_insert_55 rfl ?_
      refine V.get (pc := 56) hB fk_Win 0 wf_X8_9 dX8_insert_56 (by decide) (hp_at (ca_Win (by omega) _)) rfl ?_
      refine V.iload_n (pc := 59) hB dX8_insert_59 rfl ?_
      refine V.iload_n (pc := 60) hB dX8_insert_60 rfl ?_
      refine V.iastM (pc := 61) hB (ca_WinF (by omega)) dX8_insert_61 (ix_nI (by omega) (by decide)) (ne_LA (by omega) (by omega)) ?_
      refine V.mem (m2 := set2 m (LA i + 3) (insRow (m.1 (LA i + 3)) n (insPos (m.1 (LA i + 3)) x n) x) (shR (m.1 (LA i + 4)) n (insPos (m.1 (LA i + 3)) x n))) (by rw [hpos]; exact set2_up1 _ _ _ _ _ _ _ (ins_at _ _ _ _)) ?_
      refine V.aload_n (pc := 62) hB dX8_insert_62 rfl ?_
      refine V.get (pc := 63) hB fk_Win 1 wf_X8_15 dX8_insert_63 (by decide) (hp_at (ca_Win (by omega) _)) rfl ?_
      refine V.iload_n (pc := 66) hB dX8_insert_66 rfl ?_
      refine V.iload_n (pc := 67) hB dX8_insert_67 rfl ?_
      refine V.iastM (pc := 68) hB (ca_WinL (by omega)) dX8_insert_68 (ix_nI (by omega) (by decide)) (ne_LA (by omega) (by omega)) ?_
      refine V.mem (m2 := set2 m (LA i + 3) (insRow (m.1 (LA i + 3)) n (insPos (m.1 (LA i + 3)) x n) x) (insRow (m.1 (LA i + 4)) n (insPos (m.1 (LA i + 3)) x n) z)) (by rw [hpos]; exact set2_up4 _ _ _ _ _ _ _ (ins_at _ _ _ _)) ?_
      refine V.aload_n (pc := 69) hB dX8_insert_69 rfl ?_
      refine V.dup (pc := 70) hB dX8_insert_70 rfl ?_
      refine V.get (pc := 71) hB fk_Win 2 wf_X8_18 dX8_insert_71 (by decide) (hp_at (ca_Win (by omega) _)) rfl ?_
      rw [set2_o _ _ _ _ (by omega), hW]
      refine V.iconst (pc := 74) (v := 1) hB dX8_insert_74 rfl ?_
      refine V.iadd (pc := 75) hB dX8_insert_75 ?_
      rw [nI1]
      refine V.p_Win_count (pc := 76) hB wf_X8_18 dX8_insert_76 (by omega) ?_
      refine V.aload_n (pc := 79) hB dX8_insert_79 rfl ?_
      refine V.get (pc := 80) hB fk_Win 2 wf_X8_18 dX8_insert_80 (by decide) (hp_at (ca_Win (by omega) _)) rfl ?_
      refine V.retI (pc := 83) hB dX8_insert_83 rfl (rfl) (by omega) (by omega) ?_
      exact ⟨up_same _ _ _ _, rfl⟩
    · obtain ⟨r, rfl⟩ : ∃ r, p = r + 1 := ⟨p - 1, by have : p ≠ 0 := (fun w => c_6 (by rw [w]; exact Int32.le_refl _)); omega⟩
      refine V.aload_n (pc := 9) hB dX8_insert_9 rfl ?_
      refine V.get (pc := 10) hB fk_Win 0 wf_X8_9 dX8_insert_10 (by decide) (hp_at (ca_Win (by omega) _)) rfl ?_
      refine V.iload_n (pc := 13) hB dX8_insert_13 rfl ?_
      refine V.iconst (pc := 14) (v := 1) hB dX8_insert_14 rfl ?_
      refine V.isub (pc := 15) hB dX8_insert_15 ?_
      rw [nI_pred]
      refine V.ialdM (pc := 16) hB (ca_WinF (by omega)) dX8_insert_16 (ix_nI (by omega) (by decide)) ?_
      rw [set2_1, shR_low]
      refine V.iload_n (pc := 17) hB dX8_insert_17 rfl ?_
      refine V.icmp_le (pc := 18) (tgt := 55) hB dX8_insert_18 (by decide) (fun c_18 => ?_) (fun c_18 => ?_)
      · have hpos : insPos (m.1 (LA i + 3)) x n = r + 1 := by rw [hip]; exact if_neg (Int32.not_lt.mpr c_18)
        refine V.aload_n (pc := 55) hB dX8_insert_55 rfl ?_
        refine V.get (pc := 56) hB fk_Win 0 wf_X8_9 dX8_insert_56 (by decide) (hp_at (ca_Win (by omega) _)) rfl ?_
        refine V.iload_n (pc := 59) hB dX8_insert_59 rfl ?_
        refine V.iload_n (pc := 60) hB dX8_insert_60 rfl ?_
        refine V.iastM (pc := 61) hB (ca_WinF (by omega)) dX8_insert_61 (ix_nI (by omega) (by decide)) (ne_LA (by omega) (by omega)) ?_
        refine V.mem (m2 := set2 m (LA i + 3) (insRow (m.1 (LA i + 3)) n (insPos (m.1 (LA i + 3)) x n) x) (shR (m.1 (LA i + 4)) n (insPos (m.1 (LA i + 3)) x n))) (by rw [hpos]; exact set2_up1 _ _ _ _ _ _ _ (ins_at _ _ _ _)) ?_
        refine V.aload_n (pc := 62) hB dX8_insert_62 rfl ?_
        refine V.get (pc := 63) hB fk_Win 1 wf_X8_15 dX8_insert_63 (by decide) (hp_at (ca_Win (by omega) _)) rfl ?_
        refine V.iload_n (pc := 66) hB dX8_insert_66 rfl ?_
        refine V.iload_n (pc := 67) hB dX8_insert_67 rfl ?_
        refine V.iastM (pc := 68) hB (ca_WinL (by omega)) dX8_insert_68 (ix_nI (by omega) (by decide)) (ne_LA (by omega) (by omega)) ?_
        refine V.mem (m2 := set2 m (LA i + 3) (insRow (m.1 (LA i + 3)) n (insPos (m.1 (LA i + 3)) x n) x) (insRow (m.1 (LA i + 4)) n (insPos (m.1 (LA i + 3)) x n) z)) (by rw [hpos]; exact set2_up4 _ _ _ _ _ _ _ (ins_at _ _ _ _)) ?_
        refine V.aload_n (pc := 69) hB dX8_insert_69 rfl ?_
        refine V.dup (pc := 70) hB dX8_insert_70 rfl ?_
        refine V.get (pc := 71) hB fk_Win 2 wf_X8_18 dX8_insert_71 (by decide) (hp_at (ca_Win (by omega) _)) rfl ?_
        rw [set2_o _ _ _ _ (by omega), hW]
        refine V.iconst (pc := 74) (v := 1) hB dX8_insert_74 rfl ?_
        refine V.iadd (pc := 75) hB dX8_insert_75 ?_
        rw [nI1]
        refine V.p_Win_count (pc := 76) hB wf_X8_18 dX8_insert_76 (by omega) ?_
        refine V.aload_n (pc := 79) hB dX8_insert_79 rfl ?_
        refine V.get (pc := 80) hB fk_Win 2 wf_X8_18 dX8_insert_80 (by decide) (hp_at (ca_Win (by omega) _)) rfl ?_
        refine V.retI (pc := 83) hB dX8_insert_83 rfl (rfl) (by omega) (by omega) ?_
        exact ⟨up_same _ _ _ _, rfl⟩
      · have hlt := Int32.not_le.mp c_18
        refine V.aload_n (pc := 21) hB dX8_insert_21 rfl ?_
        refine V.get (pc := 22) hB fk_Win 0 wf_X8_9 dX8_insert_22 (by decide) (hp_at (ca_Win (by omega) _)) rfl ?_
        refine V.iload_n (pc := 25) hB dX8_insert_25 rfl ?_
        refine V.aload_n (pc := 26) hB dX8_insert_26 rfl ?_
        refine V.get (pc := 27) hB fk_Win 0 wf_X8_9 dX8_insert_27 (by decide) (hp_at (ca_Win (by omega) _)) rfl ?_
        refine V.iload_n (pc := 30) hB dX8_insert_30 rfl ?_
        refine V.iconst (pc := 31) (v := 1) hB dX8_insert_31 rfl ?_
        refine V.isub (pc := 32) hB dX8_insert_32 ?_
        rw [nI_pred]
        refine V.ialdM (pc := 33) hB (ca_WinF (by omega)) dX8_insert_33 (ix_nI (by omega) (by decide)) ?_
        rw [set2_1, shR_low]
        refine V.iastM (pc := 34) hB (ca_WinF (by omega)) dX8_insert_34 (ix_nI (by omega) (by decide)) (ne_LA (by omega) (by omega)) ?_
        refine V.mem (m2 := (set2 m (LA i + 3) (shR (m.1 (LA i + 3)) n (r)) (shR (m.1 (LA i + 4)) n (r + 1)))) (set2_up1 _ _ _ _ _ _ _ (shR_pred _ (by omega))) ?_
        refine V.aload_n (pc := 35) hB dX8_insert_35 rfl ?_
        refine V.get (pc := 36) hB fk_Win 1 wf_X8_15 dX8_insert_36 (by decide) (hp_at (ca_Win (by omega) _)) rfl ?_
        refine V.iload_n (pc := 39) hB dX8_insert_39 rfl ?_
        refine V.aload_n (pc := 40) hB dX8_insert_40 rfl ?_
        refine V.get (pc := 41) hB fk_Win 1 wf_X8_15 dX8_insert_41 (by decide) (hp_at (ca_Win (by omega) _)) rfl ?_
        refine V.iload_n (pc := 44) hB dX8_insert_44 rfl ?_
        refine V.iconst (pc := 45) (v := 1) hB dX8_insert_45 rfl ?_
        refine V.isub (pc := 46) hB dX8_insert_46 ?_
        rw [nI_pred]
        refine V.ialdM (pc := 47) hB (ca_WinL (by omega)) dX8_insert_47 (ix_nI (by omega) (by decide)) ?_
        rw [set2_4]
        rw [shR_low]
        refine V.iastM (pc := 48) hB (ca_WinL (by omega)) dX8_insert_48 (ix_nI (by omega) (by decide)) (ne_LA (by omega) (by omega)) ?_
        refine V.mem (m2 := (set2 m (LA i + 3) (shR (m.1 (LA i + 3)) n (r)) (shR (m.1 (LA i + 4)) n (r)))) (set2_up4 _ _ _ _ _ _ _ (shR_pred _ (by omega))) ?_
        refine V.iinc (pc := 49) (v := nI r) hB dX8_insert_49 rfl (by rw [show Int32.ofInt (-1) = -1 by decide]; exact pk_m1 r) (by decide) rfl ?_
        refine V.goto (pc := 52) (tgt := 5) hB dX8_insert_52 (by decide) ?_
        exact ih r rfl (by omega) (hip.trans (if_pos hlt))
  refine V.aload_n (pc := 0) hB dX8_insert_0 rfl ?_
  refine V.get (pc := 1) hB fk_Win 2 wf_X8_18 dX8_insert_1 (by decide) (hp_at (ca_Win (by omega) _)) rfl ?_
  refine V.istore_n (pc := 4) hB dX8_insert_4 (by decide) rfl ?_
  have h0 := loop n (by omega) rfl
  rw [shR_n, shR_n, set2_id] at h0
  rw [hW]
  exact h0

set_option maxRecDepth 100000 in
set_option maxHeartbeats 4000000 in
theorem c_X8_removeAt {g : xG} (hG : GK g) {i : Nat} (hi : i < 11) {m : Mem} {n : Nat} (hW : WR m i n) {a : Nat} (ha : a < n) : CC g yX8_removeAt (.code yX8_removeAt cX8_removeAt 3 (some .int)) 1 0 0 [.ref (ad g (LA i + 2)), .int (nI a)] m (rI (fun v m2 => v = nI (n - 1) ∧ m2 = rmM i n a m)) noX := by
  obtain ⟨hW, hn⟩ := hW
  refine CC.mk hG RX8 rfl (by decide +kernel) rfl (Nat.le_of_ble_eq_true rfl) (fun sz B hB hX => ?_)
  show V g B 0 0 _ (hp g m) sz 0 [some (.ref (ad g (LA i + 2))), some (.int (nI a)), none] []
  have loop : ∀ q : Nat, q ≤ n - 1 → a ≤ q → V g B 0 0 (QM g B 0 0 (rI (fun v m2 => v = nI (n - 1) ∧ m2 = rmM i n a m)) noX) (hp g ((set2 (up m (LA i + 2) 2 (nI (n - 1))) (LA i + 3) (rmRow (m.1 (LA i + 3)) a (q)) (rmRow (m.1 (LA i + 4)) a (q))))) sz 12 [some (.ref (ad g (LA i + 2))), some (.int (nI a)), some (.int (nI q))] [] := by
    refine loop_up (fun q hq ih haq => ?_)
    have hc : (set2 (up m (LA i + 2) 2 (nI (n - 1))) (LA i + 3) (rmRow (m.1 (LA i + 3)) a (q)) (rmRow (m.1 (LA i + 4)) a (q))).1 (LA i + 2) 2 = nI (n - 1) := by rw [set2_o _ _ _ _ (by omega), up_same]
    refine V.iload_n (pc := 12) hB dX8_removeAt_12 rfl ?_
    refine V.aload_n (pc := 13) hB dX8_removeAt_13 rfl ?_
    refine V.get (pc := 14) hB fk_Win 2 wf_X8_18 dX8_removeAt_14 (by decide) (hp_at (ca_Win (by omega) _)) rfl ?_
    refine V.icmp_ge (pc := 17) (tgt := 54) hB dX8_removeAt_17 (by decide) (fun c_17 => ?_) (fun c_17 => ?_)
    · have hqn : q = n - 1 := nge hc (by omega) hq c_17
      refine V.aload_n (pc := 54) hB dX8_removeAt_54 rfl ?_
      refine V.get (pc := 55) hB fk_Win 2 wf_X8_18 dX8_removeAt_55 (by decide) (hp_at (ca_Win (by omega) _)) rfl ?_
      rw [hc]
      refine V.retI (pc := 58) hB dX8_removeAt_58 rfl (rfl) (by omega) (by omega) ?_
      rw [hqn]
      exact ⟨rfl, rfl⟩
    · have hlt : q < n - 1 := nlt hc (by omega) hq c_17
      refine V.aload_n (pc := 20) hB dX8_removeAt_20 rfl ?_
      refine V.get (pc := 21) hB fk_Win 0 wf_X8_9 dX8_removeAt_21 (by decide) (hp_at (ca_Win (by omega) _)) rfl ?_
      refine V.iload_n (pc := 24) hB dX8_removeAt_24 rfl ?_
      refine V.aload_n (pc := 25) hB dX8_removeAt_25 rfl ?_
      refine V.get (pc := 26) hB fk_Win 0 wf_X8_9 dX8_removeAt_26 (by decide) (hp_at (ca_Win (by omega) _)) rfl ?_
      refine V.iload_n (pc := 29) hB dX8_removeAt_29 rfl ?_
      refine V.iconst (pc := 30) (v := 1) hB dX8_removeAt_30 rfl ?_
      refine V.iadd (pc := 31) hB dX8_removeAt_31 ?_
      rw [nI1]
      refine V.ialdM (pc := 32) hB (ca_WinF (by omega)) dX8_removeAt_32 (ix_nI (by omega) (by decide)) ?_
      rw [set2_1, rm_at]
      refine V.iastM (pc := 33) hB (ca_WinF (by omega)) dX8_removeAt_33 (ix_nI (by omega) (by decide)) (ne_LA (by omega) (by omega)) ?_
      refine V.mem (m2 := (set2 (up m (LA i + 2) 2 (nI (n - 1))) (LA i + 3) (rmRow (m.1 (LA i + 3)) a (q + 1)) (rmRow (m.1 (LA i + 4)) a (q)))) (set2_up1 _ _ _ _ _ _ _ (rm_succ _ haq)) ?_
      refine V.aload_n (pc := 34) hB dX8_removeAt_34 rfl ?_
      refine V.get (pc := 35) hB fk_Win 1 wf_X8_15 dX8_removeAt_35 (by decide) (hp_at (ca_Win (by omega) _)) rfl ?_
      refine V.iload_n (pc := 38) hB dX8_removeAt_38 rfl ?_
      refine V.aload_n (pc := 39) hB dX8_removeAt_39 rfl ?_
      refine V.get (pc := 40) hB fk_Win 1 wf_X8_15 dX8_removeAt_40 (by decide) (hp_at (ca_Win (by omega) _)) rfl ?_
      refine V.iload_n (pc := 43) hB dX8_removeAt_43 rfl ?_
      refine V.iconst (pc := 44) (v := 1) hB dX8_removeAt_44 rfl ?_
      refine V.iadd (pc := 45) hB dX8_removeAt_45 ?_
      rw [nI1]
      refine V.ialdM (pc := 46) hB (ca_WinL (by omega)) dX8_removeAt_46 (ix_nI (by omega) (by decide)) ?_
      rw [set2_4]
      rw [rm_at]
      refine V.iastM (pc := 47) hB (ca_WinL (by omega)) dX8_removeAt_47 (ix_nI (by omega) (by decide)) (ne_LA (by omega) (by omega)) ?_
      refine V.mem (m2 := (set2 (up m (LA i + 2) 2 (nI (n - 1))) (LA i + 3) (rmRow (m.1 (LA i + 3)) a (q + 1)) (rmRow (m.1 (LA i + 4)) a (q + 1)))) (set2_up4 _ _ _ _ _ _ _ (rm_succ _ haq)) ?_
      refine V.iinc (pc := 48) (v := nI (q + 1)) hB dX8_removeAt_48 rfl (nI_1 _) (by decide) rfl ?_
      refine V.goto (pc := 51) (tgt := 12) hB dX8_removeAt_51 (by decide) ?_
      exact ih hlt (by omega)
  refine V.aload_n (pc := 0) hB dX8_removeAt_0 rfl ?_
  refine V.dup (pc := 1) hB dX8_removeAt_1 rfl ?_
  refine V.get (pc := 2) hB fk_Win 2 wf_X8_18 dX8_removeAt_2 (by decide) (hp_at (ca_Win (by omega) _)) rfl ?_
  rw [hW, show nI n = nI ((n - 1) + 1) by congr 1; omega]
  refine V.iconst (pc := 5) (v := 1) hB dX8_removeAt_5 rfl ?_
  refine V.isub (pc := 6) hB dX8_removeAt_6 ?_
  rw [nI_pred]
  refine V.p_Win_count (pc := 7) hB wf_X8_18 dX8_removeAt_7 (by omega) ?_
  refine V.iload_n (pc := 10) hB dX8_removeAt_10 rfl ?_
  refine V.istore_n (pc := 11) hB dX8_removeAt_11 (by decide) rfl ?_
  have h0 := loop a (by omega) (Nat.le_refl _)
  rw [rm_self, rm_self] at h0
  refine V.mem (m2 := set2 (up m (LA i + 2) 2 (nI (n - 1))) (LA i + 3) (m.1 (LA i + 3)) (m.1 (LA i + 4))) (set2_ext ?_ ?_ (fun _ _ => rfl) rfl) h0
  · rw [up_cell _ _ _ (by omega)]
  · rw [up_cell _ _ _ (by omega)]

set_option maxRecDepth 100000 in
set_option maxHeartbeats 4000000 in
theorem c_X8_copyFrom {g : xG} (hG : GK g) {i i2 : Nat} (hi : i < 11) (hi2 : i2 < 11) {m : Mem} : CC g yX8_copyFrom (.code yX8_copyFrom cX8_copyFrom 2 none) 1 0 0 [.ref (ad g (LA i + 2)), .ref (ad g (LA i2 + 2))] m (rV (fun m2 => m2 = cpWin i i2 m)) noX := by
  refine CC.mk hG RX8 rfl (by decide +kernel) rfl (Nat.le_of_ble_eq_true rfl) (fun sz B hB hX => ?_)
  show V g B 0 0 _ (hp g m) sz 0 [some (.ref (ad g (LA i + 2))), some (.ref (ad g (LA i2 + 2)))] []
  refine V.aload_n (pc := 0) hB dX8_copyFrom_0 rfl ?_
  refine V.get (pc := 1) hB fk_Win 0 wf_X8_9 dX8_copyFrom_1 (by decide) (hp_at (ca_Win (by omega) _)) rfl ?_
  refine V.iconst (pc := 4) (v := 0) hB dX8_copyFrom_4 rfl ?_
  refine V.aload_n (pc := 5) hB dX8_copyFrom_5 rfl ?_
  refine V.get (pc := 6) hB fk_Win 0 wf_X8_9 dX8_copyFrom_6 (by decide) (hp_at (ca_Win (by omega) _)) rfl ?_
  refine V.iconst (pc := 9) (v := 0) hB dX8_copyFrom_9 rfl ?_
  refine V.bipush (pc := 10) (v := 6) hB dX8_copyFrom_10 rfl ?_
  refine V.acopyM (pc := 12) hB 0 6 wm_X8_22 dX8_copyFrom_12 (ca_WinF (by omega)) (ca_WinF (by omega)) rfl rfl (by decide) rfl (by decide) (by decide) (fun _ _ => rfl) (ne_LA (by omega) (by omega)) (by decide) (by exact Nat.le_of_ble_eq_true rfl) ?_
  refine V.aload_n (pc := 15) hB dX8_copyFrom_15 rfl ?_
  refine V.get (pc := 16) hB fk_Win 1 wf_X8_15 dX8_copyFrom_16 (by decide) (hp_at (ca_Win (by omega) _)) rfl ?_
  refine V.iconst (pc := 19) (v := 0) hB dX8_copyFrom_19 rfl ?_
  refine V.aload_n (pc := 20) hB dX8_copyFrom_20 rfl ?_
  refine V.get (pc := 21) hB fk_Win 1 wf_X8_15 dX8_copyFrom_21 (by decide) (hp_at (ca_Win (by omega) _)) rfl ?_
  refine V.iconst (pc := 24) (v := 0) hB dX8_copyFrom_24 rfl ?_
  refine V.bipush (pc := 25) (v := 6) hB dX8_copyFrom_25 rfl ?_
  refine V.acopyM (pc := 27) hB 0 6 wm_X8_22 dX8_copyFrom_27 (ca_WinL (by omega)) (ca_WinL (by omega)) rfl rfl (by decide) rfl (by decide) (by decide) (fun _ _ => rfl) (ne_LA (by omega) (by omega)) (by decide) (by exact Nat.le_of_ble_eq_true rfl) ?_
  refine V.aload_n (pc := 30) hB dX8_copyFrom_30 rfl ?_
  refine V.aload_n (pc := 31) hB dX8_copyFrom_31 rfl ?_
  refine V.get (pc := 32) hB fk_Win 2 wf_X8_18 dX8_copyFrom_32 (by decide) (hp_at (ca_Win (by omega) _)) rfl ?_
  refine V.p_Win_count (pc := 35) hB wf_X8_18 dX8_copyFrom_35 (by omega) ?_
  refine V.retV (pc := 38) hB dX8_copyFrom_38 rfl (by omega) (by omega) ?_
  exact rfl

/-- a lake's peal when the layer q cracks: 0 where it is melting -/
def ckPitch (m : Mem) (i j q : Nat) : Int32 := if m.1 (LK i j + 2) q = 0 then 0 else pitchV (m.1 (LK i j + 1)) (m.1 (LK i j + 2)) q
def wOf (m : Mem) (i : Nat) : Nat := (m.1 (LA i + 5) 5).toNatClampNeg
def cOf (m : Mem) (i : Nat) : Nat := (m.1 (LA i + 5) 4).toNatClampNeg
def ckStep (num hr : Int32) (i j N q : Nat) (m : Mem) : Mem :=
  if 30 ≤ m.1 (LK i j + 3) q then pushM i j N (nI (q + 1)) (pushM i j N (nI q - 1) (up (recM i (wOf m i) (cOf m i) 99 num (ckPitch m i j q) hr m) (LK i j + 3) q 0)) else m
def ckM (num hr : Int32) (i j N : Nat) (m : Mem) : Nat → Mem | 0 => m | q + 1 => ckStep num hr i j N q (ckM num hr i j N m q)
def ckN (num hr : Int32) (i j N : Nat) (m : Mem) : Nat → Nat | 0 => 0 | q + 1 => ckN num hr i j N m q + if 30 ≤ (ckM num hr i j N m q).1 (LK i j + 3) q then 1 else 0
def ckEnd (num hr : Int32) (i j N : Nat) (m : Mem) : Mem := up (ckM num hr i j N m N) (LK i j) 5 ((ckM num hr i j N m N).1 (LK i j) 5 + nI (ckN num hr i j N m N))
theorem recM_cell {i w cn : Nat} {kd lk pt hr : Int32} {m : Mem} {k : Nat} (h : k < LA i + 5 ∨ LA i + 9 < k) : (recM i w cn kd lk pt hr m).1 k = m.1 k := by
  unfold recM
  rw [up_cell _ _ _ (by omega), up_cell _ _ _ (by omega), up_cell _ _ _ (by omega), up_cell _ _ _ (by omega), up_cell _ _ _ (by omega), up_cell _ _ _ (by omega)]
theorem recM_PR {i w cn : Nat} {kd lk pt hr : Int32} {m : Mem} : PR (recM i w cn kd lk pt hr m) i ((w + 1) % 16) (min (cn + 1) 16) := by
  refine ⟨?_, by omega, ?_, by omega⟩
  · unfold recM; rw [up_slot _ _ _ (by decide), up_same]
  · unfold recM; rw [up_same]
theorem PR.row {m : Mem} {i w cn : Nat} (h : PR m i w cn) {m' : Mem} (e : m'.1 (LA i + 5) = m.1 (LA i + 5)) : PR m' i w cn := ⟨by rw [e]; exact h.1, h.2.1, by rw [e]; exact h.2.2.1, h.2.2.2⟩
theorem PR.w {m : Mem} {i w cn : Nat} (h : PR m i w cn) : wOf m i = w := by unfold wOf; rw [h.1, nI_clamp (by have := h.2.1; omega)]
theorem PR.c {m : Mem} {i w cn : Nat} (h : PR m i w cn) : cOf m i = cn := by unfold cOf; rw [h.2.2.1, nI_clamp (by have := h.2.2.2; omega)]
theorem pushM_cell {i j N : Nat} {x : Int32} {m : Mem} {k : Nat} (h : k ≠ LK i j + 3) : (pushM i j N x m).1 k = m.1 k := by
  unfold pushM; split
  · exact up_cell _ _ _ h
  · rfl
theorem ckStep_cell {num hr : Int32} {i j N q : Nat} {m : Mem} {k : Nat} (h : k ≠ LK i j + 3) (h2 : k < LA i + 5 ∨ LA i + 9 < k) : (ckStep num hr i j N q m).1 k = m.1 k := by
  unfold ckStep; split
  · rw [pushM_cell h, pushM_cell h, up_cell _ _ _ h, recM_cell h2]
  · rfl
theorem ckM_cell {num hr : Int32} {i j N : Nat} {m : Mem} {k : Nat} (h : k ≠ LK i j + 3) (h2 : k < LA i + 5 ∨ LA i + 9 < k) : ∀ q, (ckM num hr i j N m q).1 k = m.1 k
  | 0 => rfl
  | q + 1 => (ckStep_cell h h2).trans (ckM_cell h h2 q)
theorem LK_ge (i j : Nat) : LA i + 10 ≤ LK i j := by unfold LK; omega
theorem ckStep_PR {num hr : Int32} {i j N q : Nat} {m : Mem} (h : ∃ w cn, PR m i w cn) : ∃ w cn, PR (ckStep num hr i j N q m) i w cn := by
  have := LK_ge i j
  unfold ckStep; split
  · exact ⟨_, _, recM_PR.row (by rw [pushM_cell (by omega), pushM_cell (by omega), up_cell _ _ _ (by omega)])⟩
  · exact h
theorem ckM_PR {num hr : Int32} {i j N : Nat} {m : Mem} (h : ∃ w cn, PR m i w cn) : ∀ q, ∃ w cn, PR (ckM num hr i j N m q) i w cn
  | 0 => h
  | q + 1 => ckStep_PR (ckM_PR h q)
theorem ckN_le (num hr : Int32) (i j N : Nat) (m : Mem) : ∀ q, ckN num hr i j N m q ≤ q
  | 0 => Nat.le_refl 0
  | q + 1 => by have := ckN_le num hr i j N m q; show ckN num hr i j N m q + _ ≤ q + 1; split <;> omega

set_option maxRecDepth 100000 in
set_option maxHeartbeats 4000000 in
theorem c_X5_crackLayers {g : xG} (hG : GK g) {i j : Nat} (hi : i < 11) (hj : j < 5) {m : Mem} {N : Nat} (hN : LN m i j N) (hP : ∃ w cn, PR m i w cn) {num hr : Int32} : CC g yX5_crackLayers (.code yX5_crackLayers cX5_crackLayers 7 (some .int)) 4 0 0 [.ref (ad g (LK i j)), .int num, .int hr, .ref (ad g (LA i + 5))] m (rI (fun v m2 => v = nI (ckN num hr i j N m N) ∧ m2 = ckEnd num hr i j N m)) noX := by
  have hN8 := hN.2
  have hge := LK_ge i j
  refine CC.mk hG RX5 rfl (by decide +kernel) rfl (Nat.le_of_ble_eq_true rfl) (fun sz B hB hX => ?_)
  show V g B 0 0 _ (hp g m) sz 0 [some (.ref (ad g (LK i j))), some (.int num), some (.int hr), some (.ref (ad g (LA i + 5))), none, none, none] []
  have loop : ∀ q : Nat, q ≤ N → ∀ (sz : Nat) (x6 : Option Value), V g B 0 0 (QM g B 0 0 (rI (fun v m2 => v = nI (ckN num hr i j N m N) ∧ m2 = ckEnd num hr i j N m)) noX) (hp g ((ckM num hr i j N m q))) sz 6 [some (.ref (ad g (LK i j))), some (.int num), some (.int hr), some (.ref (ad g (LA i + 5))), some (.int (nI (ckN num hr i j N m q))), some (.int (nI q)), x6] [] := by
    refine loop_up (fun q hq ih => ?_)
    intro sz x6
    have hN2 : LN (ckM num hr i j N m q) i j N := ⟨by rw [ckM_cell (by omega) (by omega)]; exact hN.1, hN8⟩
    obtain ⟨w, cn, hPq⟩ := ckM_PR (num := num) (hr := hr) (j := j) (N := N) hP q
    refine V.iload (pc := 6) hB dX5_crackLayers_6 rfl ?_
    refine V.aload_n (pc := 8) hB dX5_crackLayers_8 rfl ?_
    refine V.get (pc := 9) hB fk_Lake 3 wf_X5_21 dX5_crackLayers_9 (by decide) (hp_at (ca_Lake (by omega) (by omega) _)) rfl ?_
    refine V.icmp_ge (pc := 12) (tgt := 92) hB dX5_crackLayers_12 (by decide) (fun c_12 => ?_) (fun c_12 => ?_)
    · have hqN : q = N := nge hN2.1 (by omega) hq c_12
      refine V.aload_n (pc := 92) hB dX5_crackLayers_92 rfl ?_
      refine V.dup (pc := 93) hB dX5_crackLayers_93 rfl ?_
      refine V.get (pc := 94) hB fk_Lake 5 wf_X5_28 dX5_crackLayers_94 (by decide) (hp_at (ca_Lake (by omega) (by omega) _)) rfl ?_
      refine V.iload (pc := 97) hB dX5_crackLayers_97 rfl ?_
      refine V.iadd (pc := 99) hB dX5_crackLayers_99 ?_
      refine V.p_Lake_cracks (pc := 100) hB wf_X5_28 dX5_crackLayers_100 (by omega) (by omega) ?_
      refine V.iload (pc := 103) hB dX5_crackLayers_103 rfl ?_
      refine V.retI (pc := 105) hB dX5_crackLayers_105 rfl (rfl) (by omega) (by omega) ?_
      rw [hqN]
      exact ⟨rfl, rfl⟩
    · have hlt : q < N := nlt hN2.1 (by omega) hq c_12
      refine V.aload_n (pc := 15) hB dX5_crackLayers_15 rfl ?_
      refine V.get (pc := 16) hB fk_Lake 2 wf_X5_18 dX5_crackLayers_16 (by decide) (hp_at (ca_Lake (by omega) (by omega) _)) rfl ?_
      refine V.iload (pc := 19) hB dX5_crackLayers_19 rfl ?_
      refine V.ialdM (pc := 21) hB (ca_LStrain (by omega) (by omega)) dX5_crackLayers_21 (ix_nI (by omega) (by decide)) ?_
      refine V.bipush (pc := 22) (v := 30) hB dX5_crackLayers_22 rfl ?_
      refine V.icmp_lt (pc := 24) (tgt := 86) hB dX5_crackLayers_24 (by decide) (fun c_24 => ?_) (fun c_24 => ?_)
      · have hck : ¬ 30 ≤ (ckM num hr i j N m q).1 (LK i j + 3) q := Int32.not_le.mpr c_24
        refine V.iinc (pc := 86) (v := nI (q + 1)) hB dX5_crackLayers_86 rfl (nI_1 _) (by decide) rfl ?_
        refine V.goto (pc := 89) (tgt := 6) hB dX5_crackLayers_89 (by decide) ?_
        first
        | (refine V.mem (m2 := ckM num hr i j N m (q + 1)) ?_ (ih hlt sz _)
           refine Eq.trans ?_ (if_pos hck).symm
           rw [hPq.w, hPq.c])
        | (have h0 := ih hlt sz x6
           rw [show ckM num hr i j N m (q + 1) = ckM num hr i j N m q from if_neg hck, show ckN num hr i j N m (q + 1) = ckN num hr i j N m q from (congrArg (fun z => ckN num hr i j N m q + z) (if_neg hck)).trans (Nat.add_zero _)] at h0
           exact h0)
      · have hck : 30 ≤ (ckM num hr i j N m q).1 (LK i j + 3) q := Int32.not_lt.mp c_24
        refine V.aload_n (pc := 27) hB dX5_crackLayers_27 rfl ?_
        refine V.get (pc := 28) hB fk_Lake 1 wf_X5_15 dX5_crackLayers_28 (by decide) (hp_at (ca_Lake (by omega) (by omega) _)) rfl ?_
        refine V.iload (pc := 31) hB dX5_crackLayers_31 rfl ?_
        refine V.ialdM (pc := 33) hB (ca_LTemp (by omega) (by omega)) dX5_crackLayers_33 (ix_nI (by omega) (by decide)) ?_
        refine V.if_ne (pc := 34) (tgt := 41) hB dX5_crackLayers_34 (by decide) (fun c_34 => ?_) (fun c_34 => ?_)
        · refine V.aload_n (pc := 41) hB dX5_crackLayers_41 rfl ?_
          refine V.iload (pc := 42) hB dX5_crackLayers_42 rfl ?_
          refine V.cv (pc := 44) hB cw_X5_pitchOf wm_X5_58 wi_X5_pitchOf ws_X5_pitchOf dX5_crackLayers_44 (c_X5_pitchOf hG hi hj (by omega)) (hp_at (ca_Lake (by omega) (by omega) _)) fk_Lake rfl (by omega) (by decide) rfl (by exact Nat.le_of_ble_eq_true rfl) (by omega) (by omega) kN (kI (fun v_44 m_44 sz h_44 => ?_)) rfl
          obtain ⟨rfl, rfl⟩ := h_44
          first
          | rw [show (0 : Int32) = ckPitch (ckM num hr i j N m q) i j q from (if_pos c_34).symm]
          | rw [show pitchV ((ckM num hr i j N m q).1 (LK i j + 1)) ((ckM num hr i j N m q).1 (LK i j + 2)) q = ckPitch (ckM num hr i j N m q) i j q from (if_neg c_34).symm]
          refine V.istore (pc := 47) hB dX5_crackLayers_47 (by decide) rfl ?_
          refine V.aload_n (pc := 49) hB dX5_crackLayers_49 rfl ?_
          refine V.bipush (pc := 50) (v := 99) hB dX5_crackLayers_50 rfl ?_
          refine V.iload_n (pc := 52) hB dX5_crackLayers_52 rfl ?_
          refine V.iload (pc := 53) hB dX5_crackLayers_53 rfl ?_
          refine V.iload_n (pc := 55) hB dX5_crackLayers_55 rfl ?_
          refine V.cv (pc := 56) hB cw_X7_record wm_X5_61 wi_X7_record ws_X7_record dX5_crackLayers_56 (c_X7_record hG hi hPq (by decide)) (hp_at (ca_Peal (by omega) _)) fk_Peal rfl (by omega) (by decide) rfl (by exact Nat.le_of_ble_eq_true rfl) (by omega) (by omega) kN (kV (fun m_56 sz h_56 => ?_)) rfl
          subst h_56
          refine V.aload_n (pc := 59) hB dX5_crackLayers_59 rfl ?_
          refine V.get (pc := 60) hB fk_Lake 2 wf_X5_18 dX5_crackLayers_60 (by decide) (hp_at (ca_Lake (by omega) (by omega) _)) rfl ?_
          refine V.iload (pc := 63) hB dX5_crackLayers_63 rfl ?_
          refine V.iconst (pc := 65) (v := 0) hB dX5_crackLayers_65 rfl ?_
          have hN3 : LN (recM i w cn 99 num (ckPitch (ckM num hr i j N m q) i j q) hr (ckM num hr i j N m q)) i j N := ⟨by rw [recM_cell (by omega)]; exact hN2.1, hN8⟩
          refine V.iastM (pc := 66) hB (ca_LStrain (by omega) (by omega)) dX5_crackLayers_66 (ix_nI (by omega) (by decide)) (ne_LK (by omega) (by omega) (by omega)) ?_
          refine V.aload_n (pc := 67) hB dX5_crackLayers_67 rfl ?_
          refine V.iload (pc := 68) hB dX5_crackLayers_68 rfl ?_
          refine V.iconst (pc := 70) (v := 1) hB dX5_crackLayers_70 rfl ?_
          refine V.isub (pc := 71) hB dX5_crackLayers_71 ?_
          refine V.cv (pc := 72) hB cw_X5_pushNeighbour wm_X5_67 wi_X5_pushNeighbour ws_X5_pushNeighbour dX5_crackLayers_72 (c_X5_pushNeighbour hG hi hj (hN3.up _ (by omega))) (hp_at (ca_Lake (by omega) (by omega) _)) fk_Lake rfl (by omega) (by decide) rfl (by exact Nat.le_of_ble_eq_true rfl) (by omega) (by omega) kN (kV (fun m_72 sz h_72 => ?_)) rfl
          subst h_72
          refine V.aload_n (pc := 75) hB dX5_crackLayers_75 rfl ?_
          refine V.iload (pc := 76) hB dX5_crackLayers_76 rfl ?_
          refine V.iconst (pc := 78) (v := 1) hB dX5_crackLayers_78 rfl ?_
          
          refine V.iadd (pc := 79) hB dX5_crackLayers_79 ?_
          refine V.cv (pc := 80) hB cw_X5_pushNeighbour wm_X5_67 wi_X5_pushNeighbour ws_X5_pushNeighbour dX5_crackLayers_80 (c_X5_pushNeighbour hG hi hj (N := N) ⟨by rw [pushM_cell (by omega), up_cell _ _ _ (by omega)]; exact hN3.1, hN8⟩) (hp_at (ca_Lake (by omega) (by omega) _)) fk_Lake rfl (by omega) (by decide) rfl (by exact Nat.le_of_ble_eq_true rfl) (by omega) (by omega) kN (kV (fun m_80 sz h_80 => ?_)) rfl
          subst h_80
          rw [nI1]
          refine V.iinc (pc := 83) (v := nI (ckN num hr i j N m (q + 1))) hB dX5_crackLayers_83 rfl (by refine (nI_1 _).trans ?_; congr 1; show _ = ckN num hr i j N m q + (if _ then 1 else 0); rw [if_pos hck]) (by decide) rfl ?_
          refine V.iinc (pc := 86) (v := nI (q + 1)) hB dX5_crackLayers_86 rfl (nI_1 _) (by decide) rfl ?_
          refine V.goto (pc := 89) (tgt := 6) hB dX5_crackLayers_89 (by decide) ?_
          first
          | (refine V.mem (m2 := ckM num hr i j N m (q + 1)) ?_ (ih hlt sz _)
             refine Eq.trans ?_ (if_pos hck).symm
             rw [hPq.w, hPq.c])
          | (have h0 := ih hlt sz x6
             rw [show ckM num hr i j N m (q + 1) = ckM num hr i j N m q from if_neg hck, show ckN num hr i j N m (q + 1) = ckN num hr i j N m q from (congrArg (fun z => ckN num hr i j N m q + z) (if_neg hck)).trans (Nat.add_zero _)] at h0
             exact h0)
        · refine V.iconst (pc := 37) (v := 0) hB dX5_crackLayers_37 rfl ?_
          refine V.goto (pc := 38) (tgt := 47) hB dX5_crackLayers_38 (by decide) ?_
          first
          | rw [show (0 : Int32) = ckPitch (ckM num hr i j N m q) i j q from (if_pos c_34).symm]
          | rw [show pitchV ((ckM num hr i j N m q).1 (LK i j + 1)) ((ckM num hr i j N m q).1 (LK i j + 2)) q = ckPitch (ckM num hr i j N m q) i j q from (if_neg c_34).symm]
          refine V.istore (pc := 47) hB dX5_crackLayers_47 (by decide) rfl ?_
          refine V.aload_n (pc := 49) hB dX5_crackLayers_49 rfl ?_
          refine V.bipush (pc := 50) (v := 99) hB dX5_crackLayers_50 rfl ?_
          refine V.iload_n (pc := 52) hB dX5_crackLayers_52 rfl ?_
          refine V.iload (pc := 53) hB dX5_crackLayers_53 rfl ?_
          refine V.iload_n (pc := 55) hB dX5_crackLayers_55 rfl ?_
          refine V.cv (pc := 56) hB cw_X7_record wm_X5_61 wi_X7_record ws_X7_record dX5_crackLayers_56 (c_X7_record hG hi hPq (by decide)) (hp_at (ca_Peal (by omega) _)) fk_Peal rfl (by omega) (by decide) rfl (by exact Nat.le_of_ble_eq_true rfl) (by omega) (by omega) kN (kV (fun m_56 sz h_56 => ?_)) rfl
          subst h_56
          refine V.aload_n (pc := 59) hB dX5_crackLayers_59 rfl ?_
          refine V.get (pc := 60) hB fk_Lake 2 wf_X5_18 dX5_crackLayers_60 (by decide) (hp_at (ca_Lake (by omega) (by omega) _)) rfl ?_
          refine V.iload (pc := 63) hB dX5_crackLayers_63 rfl ?_
          refine V.iconst (pc := 65) (v := 0) hB dX5_crackLayers_65 rfl ?_
          have hN3 : LN (recM i w cn 99 num (ckPitch (ckM num hr i j N m q) i j q) hr (ckM num hr i j N m q)) i j N := ⟨by rw [recM_cell (by omega)]; exact hN2.1, hN8⟩
          refine V.iastM (pc := 66) hB (ca_LStrain (by omega) (by omega)) dX5_crackLayers_66 (ix_nI (by omega) (by decide)) (ne_LK (by omega) (by omega) (by omega)) ?_
          refine V.aload_n (pc := 67) hB dX5_crackLayers_67 rfl ?_
          refine V.iload (pc := 68) hB dX5_crackLayers_68 rfl ?_
          refine V.iconst (pc := 70) (v := 1) hB dX5_crackLayers_70 rfl ?_
          refine V.isub (pc := 71) hB dX5_crackLayers_71 ?_
          refine V.cv (pc := 72) hB cw_X5_pushNeighbour wm_X5_67 wi_X5_pushNeighbour ws_X5_pushNeighbour dX5_crackLayers_72 (c_X5_pushNeighbour hG hi hj (hN3.up _ (by omega))) (hp_at (ca_Lake (by omega) (by omega) _)) fk_Lake rfl (by omega) (by decide) rfl (by exact Nat.le_of_ble_eq_true rfl) (by omega) (by omega) kN (kV (fun m_72 sz h_72 => ?_)) rfl
          subst h_72
          refine V.aload_n (pc := 75) hB dX5_crackLayers_75 rfl ?_
          refine V.iload (pc := 76) hB dX5_crackLayers_76 rfl ?_
          refine V.iconst (pc := 78) (v := 1) hB dX5_crackLayers_78 rfl ?_
          
          refine V.iadd (pc := 79) hB dX5_crackLayers_79 ?_
          refine V.cv (pc := 80) hB cw_X5_pushNeighbour wm_X5_67 wi_X5_pushNeighbour ws_X5_pushNeighbour dX5_crackLayers_80 (c_X5_pushNeighbour hG hi hj (N := N) ⟨by rw [pushM_cell (by omega), up_cell _ _ _ (by omega)]; exact hN3.1, hN8⟩) (hp_at (ca_Lake (by omega) (by omega) _)) fk_Lake rfl (by omega) (by decide) rfl (by exact Nat.le_of_ble_eq_true rfl) (by omega) (by omega) kN (kV (fun m_80 sz h_80 => ?_)) rfl
          subst h_80
          rw [nI1]
          refine V.iinc (pc := 83) (v := nI (ckN num hr i j N m (q + 1))) hB dX5_crackLayers_83 rfl (by refine (nI_1 _).trans ?_; congr 1; show _ = ckN num hr i j N m q + (if _ then 1 else 0); rw [if_pos hck]) (by decide) rfl ?_
          refine V.iinc (pc := 86) (v := nI (q + 1)) hB dX5_crackLayers_86 rfl (nI_1 _) (by decide) rfl ?_
          refine V.goto (pc := 89) (tgt := 6) hB dX5_crackLayers_89 (by decide) ?_
          first
          | (refine V.mem (m2 := ckM num hr i j N m (q + 1)) ?_ (ih hlt sz _)
             refine Eq.trans ?_ (if_pos hck).symm
             rw [hPq.w, hPq.c])
          | (have h0 := ih hlt sz x6
             rw [show ckM num hr i j N m (q + 1) = ckM num hr i j N m q from if_neg hck, show ckN num hr i j N m (q + 1) = ckN num hr i j N m q from (congrArg (fun z => ckN num hr i j N m q + z) (if_neg hck)).trans (Nat.add_zero _)] at h0
             exact h0)
  refine V.iconst (pc := 0) (v := 0) hB dX5_crackLayers_0 rfl ?_
  refine V.istore (pc := 1) hB dX5_crackLayers_1 (by decide) rfl ?_
  refine V.iconst (pc := 3) (v := 0) hB dX5_crackLayers_3 rfl ?_
  refine V.istore (pc := 4) hB dX5_crackLayers_4 (by decide) rfl ?_
  exact loop 0 (by omega) sz none
