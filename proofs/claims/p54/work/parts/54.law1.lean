/-! the law's small methods -/
section VU2
variable {g : xG} {B : BT} {k n : Nat} {Q : State → Prop} {h : xH} {sz pc : Nat} {ls : List (Option Value)} {st : List Value} {cc : ByteArray} {nL : Nat} {own : String} {ret : Option FieldType} {d mc ms : Nat}
theorem V.iushr (hB : Bd g B cc nL own ret d mc ms) {x y : Int32} (hd : decode cc pc = .ok (.iushr, 1)) (kk : V g B k n Q h sz (pc + 1) ls (.int (x.toUInt32 >>> (y.toUInt32 &&& Int32.toUInt32 31)).toInt32 :: st)) : V g B k n Q h sz pc ls (.int y :: .int x :: st) := by
  obtain ⟨p, l, e, R, s, m, args, below, meth, c⟩ := B
  obtain ⟨hx, hb, hml, hown, hr, hlk, hG, hW, hR, hfl⟩ := hB
  intro H locs A hz hl0
  exact lv_iushr hx hb hd rfl (kk H locs A hz hl0)
end VU2
theorem ush8 (x : Int32) : ∃ a, a < 16777216 ∧ (x.toUInt32 >>> ((8 : Int32).toUInt32 &&& Int32.toUInt32 31)).toInt32 = nI a := by
  refine ⟨x.toUInt32.toNat / 256, by have := x.toUInt32.toNat_lt; omega, ?_⟩
  rw [show ((8 : Int32).toUInt32 &&& Int32.toUInt32 31) = 8 by decide]
  apply Int32.toBitVec_inj.mp
  apply BitVec.eq_of_toNat_eq
  have h2 : ((x.toUInt32 >>> 8).toInt32.toBitVec).toNat = (x.toUInt32 >>> 8).toNat := rfl
  have h3 : (nI (x.toUInt32.toNat / 256)).toBitVec.toNat = (x.toUInt32.toNat / 256) % 2 ^ 32 := rfl
  have h4 : (x.toUInt32 >>> 8).toNat = x.toUInt32.toNat / 256 := by
    rw [UInt32.toNat_shiftRight, Nat.shiftRight_eq_div_pow]
    rfl
  have := x.toUInt32.toNat_lt
  rw [h2, h3, h4, Nat.mod_eq_of_lt (by omega)]

theorem wk_L_7 : WD (.constant RL 7 69069) := WD.at 330 (by decide +kernel) rfl
theorem wk_L_8 : WD (.constant RL 8 1103515245) := WD.at 331 (by decide +kernel) rfl

set_option maxRecDepth 100000 in
set_option maxHeartbeats 4000000 in
theorem c_L_cell {g : xG} (hG : GK g) {b L : Nat} {xs : Nat → Int32} (hS : va_T .int b L (fun j => .int (xs j)) (xFree g) g.1 g.1.heap) (hL : L ≤ 260) {q : Nat} (hq : q ≤ 10000) {m : Mem} : CC g yL_cell (.code yL_cell cL_cell 3 (some .int)) 1 0 0 [.ref b, .int (nI q)] m (rI (fun _ m2 => m2 = m)) noX := by
  refine CC.mk hG RL rfl (by decide +kernel) rfl (Nat.le_of_ble_eq_true rfl) (fun sz B hB hX => ?_)
  show V g B 0 0 _ (hp g m) sz 0 [some (.ref b), some (.int (nI q)), none] []
  refine V.ldcI (pc := 0) (v := 69069) hB wk_L_7 dL_cell_0 ?_
  refine V.iload_n (pc := 2) hB dL_cell_2 rfl ?_
  refine V.aload_n (pc := 3) hB dL_cell_3 rfl ?_
  refine V.stlen (pc := 4) hB hS rfl dL_cell_4 ?_
  refine V.icmp_ge (pc := 5) (tgt := 14) hB dL_cell_5 (by decide) (fun c_5 => ?_) (fun c_5 => ?_)
  · refine V.iconst (pc := 14) (v := 0) hB dL_cell_14 rfl ?_
    refine V.sipush (pc := 15) (v := 1009) hB dL_cell_15 rfl ?_
    refine V.iload_n (pc := 18) hB dL_cell_18 rfl ?_
    refine V.imul (pc := 19) hB dL_cell_19 ?_
    refine V.iadd (pc := 20) hB dL_cell_20 ?_
    refine V.imul (pc := 21) hB dL_cell_21 ?_
    refine V.sipush (pc := 22) (v := 12345) hB dL_cell_22 rfl ?_
    refine V.iadd (pc := 25) hB dL_cell_25 ?_
    refine V.istore_n (pc := 26) hB dL_cell_26 (by decide) rfl ?_
    refine V.iload_n (pc := 27) hB dL_cell_27 rfl ?_
    refine V.iload_n (pc := 28) hB dL_cell_28 rfl ?_
    refine V.bipush (pc := 29) (v := 13) hB dL_cell_29 rfl ?_
    refine V.iushr (pc := 31) hB dL_cell_31 ?_
    refine V.ixor (pc := 32) hB dL_cell_32 ?_
    refine V.ldcI (pc := 33) (v := 1103515245) hB wk_L_8 dL_cell_33 ?_
    refine V.imul (pc := 35) hB dL_cell_35 ?_
    refine V.istore_n (pc := 36) hB dL_cell_36 (by decide) rfl ?_
    refine V.iload_n (pc := 37) hB dL_cell_37 rfl ?_
    refine V.iload_n (pc := 38) hB dL_cell_38 rfl ?_
    refine V.bipush (pc := 39) (v := 16) hB dL_cell_39 rfl ?_
    refine V.iushr (pc := 41) hB dL_cell_41 ?_
    refine V.ixor (pc := 42) hB dL_cell_42 ?_
    refine V.retI (pc := 43) hB dL_cell_43 rfl (rfl) (by omega) (by omega) ?_
    exact rfl
  · have hlt : q < L := Nat.not_le.mp (fun z => c_5 ((nI_leI (by omega) (by omega)).mpr z))
    refine V.aload_n (pc := 8) hB dL_cell_8 rfl ?_
    refine V.iload_n (pc := 9) hB dL_cell_9 rfl ?_
    refine V.sti (pc := 10) hB hS (ix_nI hlt (by omega)).2 rfl dL_cell_10 ?_
    refine V.goto (pc := 11) (tgt := 15) hB dL_cell_11 (by decide) ?_
    refine V.sipush (pc := 15) (v := 1009) hB dL_cell_15 rfl ?_
    refine V.iload_n (pc := 18) hB dL_cell_18 rfl ?_
    refine V.imul (pc := 19) hB dL_cell_19 ?_
    refine V.iadd (pc := 20) hB dL_cell_20 ?_
    refine V.imul (pc := 21) hB dL_cell_21 ?_
    refine V.sipush (pc := 22) (v := 12345) hB dL_cell_22 rfl ?_
    refine V.iadd (pc := 25) hB dL_cell_25 ?_
    refine V.istore_n (pc := 26) hB dL_cell_26 (by decide) rfl ?_
    refine V.iload_n (pc := 27) hB dL_cell_27 rfl ?_
    refine V.iload_n (pc := 28) hB dL_cell_28 rfl ?_
    refine V.bipush (pc := 29) (v := 13) hB dL_cell_29 rfl ?_
    refine V.iushr (pc := 31) hB dL_cell_31 ?_
    refine V.ixor (pc := 32) hB dL_cell_32 ?_
    refine V.ldcI (pc := 33) (v := 1103515245) hB wk_L_8 dL_cell_33 ?_
    refine V.imul (pc := 35) hB dL_cell_35 ?_
    refine V.istore_n (pc := 36) hB dL_cell_36 (by decide) rfl ?_
    refine V.iload_n (pc := 37) hB dL_cell_37 rfl ?_
    refine V.iload_n (pc := 38) hB dL_cell_38 rfl ?_
    refine V.bipush (pc := 39) (v := 16) hB dL_cell_39 rfl ?_
    refine V.iushr (pc := 41) hB dL_cell_41 ?_
    refine V.ixor (pc := 42) hB dL_cell_42 ?_
    refine V.retI (pc := 43) hB dL_cell_43 rfl (rfl) (by omega) (by omega) ?_
    exact rfl

set_option maxRecDepth 100000 in
set_option maxHeartbeats 4000000 in
theorem c_L_pick {g : xG} (hG : GK g) {b L : Nat} {xs : Nat → Int32} (hS : va_T .int b L (fun j => .int (xs j)) (xFree g) g.1 g.1.heap) (hL : L ≤ 260) {q n : Nat} (hq : q ≤ 10000) (h0 : 0 < n) (hn : n ≤ 100000) {m : Mem} : CC g yL_pick (.code yL_pick cL_pick 3 (some .int)) 2 0 0 [.ref b, .int (nI q), .int (nI n)] m (rI (fun v m2 => (∃ r, r < n ∧ v = nI r) ∧ m2 = m)) noX := by
  refine CC.mk hG RL rfl (by decide +kernel) rfl (Nat.le_of_ble_eq_true rfl) (fun sz B hB hX => ?_)
  show V g B 0 0 _ (hp g m) sz 0 [some (.ref b), some (.int (nI q)), some (.int (nI n))] []
  refine V.aload_n (pc := 0) hB dL_pick_0 rfl ?_
  refine V.iload_n (pc := 1) hB dL_pick_1 rfl ?_
  refine V.cs (pc := 2) hB cw_L_cell wm_L_9 wst_L_cell dL_pick_2 (c_L_cell hG hS hL hq) (by omega) (by decide) rfl (by exact Nat.le_of_ble_eq_true rfl) (by omega) (by omega) kN (kI (fun v_2 m_2 sz h_2 => ?_)) rfl
  subst h_2
  refine V.bipush (pc := 5) (v := 8) hB dL_pick_5 rfl ?_
  refine V.iushr (pc := 7) hB dL_pick_7 ?_
  obtain ⟨a, ha, e⟩ := ush8 v_2
  rw [e]
  refine V.iload_n (pc := 8) hB dL_pick_8 rfl ?_
  refine V.irem (pc := 9) hB dL_pick_9 (nI_ne0 h0 (by omega)) ?_
  rw [pk_rem (by omega) h0 (by omega)]
  refine V.retI (pc := 10) hB dL_pick_10 rfl (rfl) (by omega) (by omega) ?_
  exact ⟨⟨_, Nat.mod_lt _ h0, rfl⟩, rfl⟩

set_option maxRecDepth 100000 in
set_option maxHeartbeats 4000000 in
theorem c_L_told {g : xG} (hG : GK g) {x : Int32} {m : Mem} : CC g yL_told (.code yL_told cL_told 1 (some .int)) 1 0 0 [.int x] m (rI (fun v m2 => v = (if x = 0 then 0 else 1) ∧ m2 = m)) noX := by
  refine CC.mk hG RL rfl (by decide +kernel) rfl (Nat.le_of_ble_eq_true rfl) (fun sz B hB hX => ?_)
  show V g B 0 0 _ (hp g m) sz 0 [some (.int x)] []
  refine V.iload_n (pc := 0) hB dL_told_0 rfl ?_
  refine V.if_eq (pc := 1) (tgt := 8) hB dL_told_1 (by decide) (fun c_1 => ?_) (fun c_1 => ?_)
  · have hv : (if x = 0 then (0 : Int32) else 1) = 0 := if_pos c_1
    refine V.iconst (pc := 8) (v := 0) hB dL_told_8 rfl ?_
    refine V.retI (pc := 9) hB dL_told_9 rfl (rfl) (by omega) (by omega) ?_
    exact ⟨hv.symm, rfl⟩
  · have hv : (if x = 0 then (0 : Int32) else 1) = 1 := if_neg c_1
    refine V.iconst (pc := 4) (v := 1) hB dL_told_4 rfl ?_
    refine V.goto (pc := 5) (tgt := 9) hB dL_told_5 (by decide) ?_
    refine V.retI (pc := 9) hB dL_told_9 rfl (rfl) (by omega) (by omega) ?_
    exact ⟨hv.symm, rfl⟩

set_option maxRecDepth 100000 in
set_option maxHeartbeats 4000000 in
theorem c_L_plain_0 {g : xG} (hG : GK g) {m : Mem} {a b c : Int32} {P : Int32 → Mem → Prop} {PX : String → Mem → Prop} {d mc ms : Nat} (hC : CC g yX9_addLake (.code yX9_addLake cX9_addLake 2 (some .int)) d mc ms [.ref (ad g 0), .int a] m (rI P) PX) : CC g yL_plain (.code yL_plain cL_plain 5 (some .int)) (d + 1) mc ms [.ref (ad g 0), .int 0, .int a, .int b, .int c] m (rI P) PX := by
  refine CC.mk hG RL rfl (by decide +kernel) rfl (Nat.le_of_ble_eq_true rfl) (fun sz B hB hX => ?_)
  show V g B 0 0 _ (hp g m) sz 0 [some (.ref (ad g 0)), some (.int 0), some (.int a), some (.int b), some (.int c)] []
  refine V.iload_n (pc := 0) hB dL_plain_0 rfl ?_
  refine V.tsw_in (pc := 1) (x := 0) (off := 43) (tgt := 44) hB dL_plain_1 (by decide) (by decide) rfl rfl ?_
  refine V.aload_n (pc := 44) hB dL_plain_44 rfl ?_
  refine V.iload_n (pc := 45) hB dL_plain_45 rfl ?_
  refine V.cv (pc := 46) hB cw_X9_addLake wm_L_15 wi_X9_addLake ws_X9_addLake dL_plain_46 (hC) (hp_at (ca_Bells _)) fk_Bells rfl (by omega) (by decide) rfl (by exact Nat.le_of_ble_eq_true rfl) (by omega) (by omega) (fun E m2 sz hx => VX.outM hB hX (by omega) (by omega) hx) (kI (fun v_46 m_46 sz h_46 => ?_)) rfl
  refine V.retI (pc := 49) hB dL_plain_49 rfl (rfl) (by omega) (by omega) ?_
  exact h_46

set_option maxRecDepth 100000 in
set_option maxHeartbeats 4000000 in
theorem c_L_plain_1 {g : xG} (hG : GK g) {m : Mem} {a b c : Int32} {P : Int32 → Mem → Prop} {PX : String → Mem → Prop} {d mc ms : Nat} (hC : CC g yX9_freeze (.code yX9_freeze cX9_freeze 4 (some .int)) d mc ms [.ref (ad g 0), .int a, .int b, .int c] m (rI P) PX) : CC g yL_plain (.code yL_plain cL_plain 5 (some .int)) (d + 1) mc ms [.ref (ad g 0), .int 1, .int a, .int b, .int c] m (rI P) PX := by
  refine CC.mk hG RL rfl (by decide +kernel) rfl (Nat.le_of_ble_eq_true rfl) (fun sz B hB hX => ?_)
  show V g B 0 0 _ (hp g m) sz 0 [some (.ref (ad g 0)), some (.int 1), some (.int a), some (.int b), some (.int c)] []
  refine V.iload_n (pc := 0) hB dL_plain_0 rfl ?_
  refine V.tsw_in (pc := 1) (x := 1) (off := 49) (tgt := 50) hB dL_plain_1 (by decide) (by decide) rfl rfl ?_
  refine V.aload_n (pc := 50) hB dL_plain_50 rfl ?_
  refine V.iload_n (pc := 51) hB dL_plain_51 rfl ?_
  refine V.iload_n (pc := 52) hB dL_plain_52 rfl ?_
  refine V.iload (pc := 53) hB dL_plain_53 rfl ?_
  refine V.cv (pc := 55) hB cw_X9_freeze wm_L_21 wi_X9_freeze ws_X9_freeze dL_plain_55 (hC) (hp_at (ca_Bells _)) fk_Bells rfl (by omega) (by decide) rfl (by exact Nat.le_of_ble_eq_true rfl) (by omega) (by omega) (fun E m2 sz hx => VX.outM hB hX (by omega) (by omega) hx) (kI (fun v_55 m_55 sz h_55 => ?_)) rfl
  refine V.retI (pc := 58) hB dL_plain_58 rfl (rfl) (by omega) (by omega) ?_
  exact h_55

set_option maxRecDepth 100000 in
set_option maxHeartbeats 4000000 in
theorem c_L_plain_2 {g : xG} (hG : GK g) {m : Mem} {a b c : Int32} {P : Int32 → Mem → Prop} {PX : String → Mem → Prop} {d mc ms : Nat} (hC : CC g yX9_setAir (.code yX9_setAir cX9_setAir 2 (some .int)) d mc ms [.ref (ad g 0), .int a] m (rI P) PX) : CC g yL_plain (.code yL_plain cL_plain 5 (some .int)) (d + 1) mc ms [.ref (ad g 0), .int 2, .int a, .int b, .int c] m (rI (fun v m2 => ∃ r, P r m2 ∧ v = r + 100)) PX := by
  refine CC.mk hG RL rfl (by decide +kernel) rfl (Nat.le_of_ble_eq_true rfl) (fun sz B hB hX => ?_)
  show V g B 0 0 _ (hp g m) sz 0 [some (.ref (ad g 0)), some (.int 2), some (.int a), some (.int b), some (.int c)] []
  refine V.iload_n (pc := 0) hB dL_plain_0 rfl ?_
  refine V.tsw_in (pc := 1) (x := 2) (off := 58) (tgt := 59) hB dL_plain_1 (by decide) (by decide) rfl rfl ?_
  refine V.aload_n (pc := 59) hB dL_plain_59 rfl ?_
  refine V.iload_n (pc := 60) hB dL_plain_60 rfl ?_
  refine V.cv (pc := 61) hB cw_X9_setAir wm_L_25 wi_X9_setAir ws_X9_setAir dL_plain_61 (hC) (hp_at (ca_Bells _)) fk_Bells rfl (by omega) (by decide) rfl (by exact Nat.le_of_ble_eq_true rfl) (by omega) (by omega) (fun E m2 sz hx => VX.outM hB hX (by omega) (by omega) hx) (kI (fun v_61 m_61 sz h_61 => ?_)) rfl
  refine V.bipush (pc := 64) (v := 100) hB dL_plain_64 rfl ?_
  refine V.iadd (pc := 66) hB dL_plain_66 ?_
  refine V.retI (pc := 67) hB dL_plain_67 rfl (rfl) (by omega) (by omega) ?_
  exact ⟨v_61, h_61, rfl⟩

set_option maxRecDepth 100000 in
set_option maxHeartbeats 4000000 in
theorem c_L_plain_3 {g : xG} (hG : GK g) {m : Mem} {a b c : Int32} {P : Int32 → Mem → Prop} {PX : String → Mem → Prop} {d mc ms : Nat} (hC : CC g yX9_pass (.code yX9_pass cX9_pass 2 (some .int)) d mc ms [.ref (ad g 0), .int a] m (rI P) PX) : CC g yL_plain (.code yL_plain cL_plain 5 (some .int)) (d + 1) mc ms [.ref (ad g 0), .int 3, .int a, .int b, .int c] m (rI P) PX := by
  refine CC.mk hG RL rfl (by decide +kernel) rfl (Nat.le_of_ble_eq_true rfl) (fun sz B hB hX => ?_)
  show V g B 0 0 _ (hp g m) sz 0 [some (.ref (ad g 0)), some (.int 3), some (.int a), some (.int b), some (.int c)] []
  refine V.iload_n (pc := 0) hB dL_plain_0 rfl ?_
  refine V.tsw_in (pc := 1) (x := 3) (off := 67) (tgt := 68) hB dL_plain_1 (by decide) (by decide) rfl rfl ?_
  refine V.aload_n (pc := 68) hB dL_plain_68 rfl ?_
  refine V.iload_n (pc := 69) hB dL_plain_69 rfl ?_
  refine V.cv (pc := 70) hB cw_X9_pass wm_L_28 wi_X9_pass ws_X9_pass dL_plain_70 (hC) (hp_at (ca_Bells _)) fk_Bells rfl (by omega) (by decide) rfl (by exact Nat.le_of_ble_eq_true rfl) (by omega) (by omega) (fun E m2 sz hx => VX.outM hB hX (by omega) (by omega) hx) (kI (fun v_70 m_70 sz h_70 => ?_)) rfl
  refine V.retI (pc := 73) hB dL_plain_73 rfl (rfl) (by omega) (by omega) ?_
  exact h_70

set_option maxRecDepth 100000 in
set_option maxHeartbeats 4000000 in
theorem c_L_plain_4 {g : xG} (hG : GK g) {m : Mem} {a b c : Int32} {P : Int32 → Mem → Prop} {PX : String → Mem → Prop} {d mc ms : Nat} (hC : CC g yX9_addWindow (.code yX9_addWindow cX9_addWindow 3 (some .int)) d mc ms [.ref (ad g 0), .int a, .int b] m (rI P) PX) : CC g yL_plain (.code yL_plain cL_plain 5 (some .int)) (d + 1) mc ms [.ref (ad g 0), .int 4, .int a, .int b, .int c] m (rI P) PX := by
  refine CC.mk hG RL rfl (by decide +kernel) rfl (Nat.le_of_ble_eq_true rfl) (fun sz B hB hX => ?_)
  show V g B 0 0 _ (hp g m) sz 0 [some (.ref (ad g 0)), some (.int 4), some (.int a), some (.int b), some (.int c)] []
  refine V.iload_n (pc := 0) hB dL_plain_0 rfl ?_
  refine V.tsw_in (pc := 1) (x := 4) (off := 73) (tgt := 74) hB dL_plain_1 (by decide) (by decide) rfl rfl ?_
  refine V.aload_n (pc := 74) hB dL_plain_74 rfl ?_
  refine V.iload_n (pc := 75) hB dL_plain_75 rfl ?_
  refine V.iload_n (pc := 76) hB dL_plain_76 rfl ?_
  refine V.cv (pc := 77) hB cw_X9_addWindow wm_L_31 wi_X9_addWindow ws_X9_addWindow dL_plain_77 (hC) (hp_at (ca_Bells _)) fk_Bells rfl (by omega) (by decide) rfl (by exact Nat.le_of_ble_eq_true rfl) (by omega) (by omega) (fun E m2 sz hx => VX.outM hB hX (by omega) (by omega) hx) (kI (fun v_77 m_77 sz h_77 => ?_)) rfl
  refine V.retI (pc := 80) hB dL_plain_80 rfl (rfl) (by omega) (by omega) ?_
  exact h_77

set_option maxRecDepth 100000 in
set_option maxHeartbeats 4000000 in
theorem c_L_plain_5 {g : xG} (hG : GK g) {m : Mem} {a b c : Int32} {P : Int32 → Mem → Prop} {PX : String → Mem → Prop} {d mc ms : Nat} (hC : CC g yX9_removeWindow (.code yX9_removeWindow cX9_removeWindow 2 (some .int)) d mc ms [.ref (ad g 0), .int a] m (rI P) PX) : CC g yL_plain (.code yL_plain cL_plain 5 (some .int)) (d + 1) mc ms [.ref (ad g 0), .int 5, .int a, .int b, .int c] m (rI P) PX := by
  refine CC.mk hG RL rfl (by decide +kernel) rfl (Nat.le_of_ble_eq_true rfl) (fun sz B hB hX => ?_)
  show V g B 0 0 _ (hp g m) sz 0 [some (.ref (ad g 0)), some (.int 5), some (.int a), some (.int b), some (.int c)] []
  refine V.iload_n (pc := 0) hB dL_plain_0 rfl ?_
  refine V.tsw_in (pc := 1) (x := 5) (off := 80) (tgt := 81) hB dL_plain_1 (by decide) (by decide) rfl rfl ?_
  refine V.aload_n (pc := 81) hB dL_plain_81 rfl ?_
  refine V.iload_n (pc := 82) hB dL_plain_82 rfl ?_
  refine V.cv (pc := 83) hB cw_X9_removeWindow wm_L_35 wi_X9_removeWindow ws_X9_removeWindow dL_plain_83 (hC) (hp_at (ca_Bells _)) fk_Bells rfl (by omega) (by decide) rfl (by exact Nat.le_of_ble_eq_true rfl) (by omega) (by omega) (fun E m2 sz hx => VX.outM hB hX (by omega) (by omega) hx) (kI (fun v_83 m_83 sz h_83 => ?_)) rfl
  refine V.retI (pc := 86) hB dL_plain_86 rfl (rfl) (by omega) (by omega) ?_
  exact h_83

set_option maxRecDepth 100000 in
set_option maxHeartbeats 4000000 in
theorem c_L_plain_6 {g : xG} (hG : GK g) {m : Mem} {a b c : Int32} {P : Int32 → Mem → Prop} {PX : String → Mem → Prop} {d mc ms : Nat} (hC : CC g yX9_strike (.code yX9_strike cX9_strike 3 (some .int)) d mc ms [.ref (ad g 0), .int a, .int b] m (rI P) PX) : CC g yL_plain (.code yL_plain cL_plain 5 (some .int)) (d + 1) mc ms [.ref (ad g 0), .int 6, .int a, .int b, .int c] m (rI P) PX := by
  refine CC.mk hG RL rfl (by decide +kernel) rfl (Nat.le_of_ble_eq_true rfl) (fun sz B hB hX => ?_)
  show V g B 0 0 _ (hp g m) sz 0 [some (.ref (ad g 0)), some (.int 6), some (.int a), some (.int b), some (.int c)] []
  refine V.iload_n (pc := 0) hB dL_plain_0 rfl ?_
  refine V.tsw_in (pc := 1) (x := 6) (off := 86) (tgt := 87) hB dL_plain_1 (by decide) (by decide) rfl rfl ?_
  refine V.aload_n (pc := 87) hB dL_plain_87 rfl ?_
  refine V.iload_n (pc := 88) hB dL_plain_88 rfl ?_
  refine V.iload_n (pc := 89) hB dL_plain_89 rfl ?_
  refine V.cv (pc := 90) hB cw_X9_strike wm_L_38 wi_X9_strike ws_X9_strike dL_plain_90 (hC) (hp_at (ca_Bells _)) fk_Bells rfl (by omega) (by decide) rfl (by exact Nat.le_of_ble_eq_true rfl) (by omega) (by omega) (fun E m2 sz hx => VX.outM hB hX (by omega) (by omega) hx) (kI (fun v_90 m_90 sz h_90 => ?_)) rfl
  refine V.retI (pc := 93) hB dL_plain_93 rfl (rfl) (by omega) (by omega) ?_
  exact h_90

set_option maxRecDepth 100000 in
set_option maxHeartbeats 4000000 in
theorem c_L_asked_0 {g : xG} (hG : GK g) {m : Mem} {a b : Int32} {P : Int32 → Mem → Prop} {PX : String → Mem → Prop} {d mc ms : Nat} (hC : CC g yX9_depth (.code yX9_depth cX9_depth 2 (some .int)) d mc ms [.ref (ad g 0), .int a] m (rI P) PX) : CC g yL_asked (.code yL_asked cL_asked 4 (some .int)) (d + 1) mc ms [.ref (ad g 0), .int 0, .int a, .int b] m (rI P) PX := by
  refine CC.mk hG RL rfl (by decide +kernel) rfl (Nat.le_of_ble_eq_true rfl) (fun sz B hB hX => ?_)
  show V g B 0 0 _ (hp g m) sz 0 [some (.ref (ad g 0)), some (.int 0), some (.int a), some (.int b)] []
  refine V.iload_n (pc := 0) hB dL_asked_0 rfl ?_
  refine V.tsw_in (pc := 1) (x := 0) (off := 59) (tgt := 60) hB dL_asked_1 (by decide) (by decide) rfl rfl ?_
  refine V.aload_n (pc := 60) hB dL_asked_60 rfl ?_
  refine V.iload_n (pc := 61) hB dL_asked_61 rfl ?_
  refine V.cv (pc := 62) hB cw_X9_depth wm_L_57 wi_X9_depth ws_X9_depth dL_asked_62 (hC) (hp_at (ca_Bells _)) fk_Bells rfl (by omega) (by decide) rfl (by exact Nat.le_of_ble_eq_true rfl) (by omega) (by omega) (fun E m2 sz hx => VX.outM hB hX (by omega) (by omega) hx) (kI (fun v_62 m_62 sz h_62 => ?_)) rfl
  refine V.retI (pc := 65) hB dL_asked_65 rfl (rfl) (by omega) (by omega) ?_
  exact h_62

set_option maxRecDepth 100000 in
set_option maxHeartbeats 4000000 in
theorem c_L_asked_1 {g : xG} (hG : GK g) {m : Mem} {a b : Int32} {P : Int32 → Mem → Prop} {PX : String → Mem → Prop} {d mc ms : Nat} (hC : CC g yX9_temperature (.code yX9_temperature cX9_temperature 3 (some .int)) d mc ms [.ref (ad g 0), .int a, .int b] m (rI P) PX) : CC g yL_asked (.code yL_asked cL_asked 4 (some .int)) (d + 1) mc ms [.ref (ad g 0), .int 1, .int a, .int b] m (rI (fun v m2 => ∃ r, P r m2 ∧ v = r + 100)) PX := by
  refine CC.mk hG RL rfl (by decide +kernel) rfl (Nat.le_of_ble_eq_true rfl) (fun sz B hB hX => ?_)
  show V g B 0 0 _ (hp g m) sz 0 [some (.ref (ad g 0)), some (.int 1), some (.int a), some (.int b)] []
  refine V.iload_n (pc := 0) hB dL_asked_0 rfl ?_
  refine V.tsw_in (pc := 1) (x := 1) (off := 65) (tgt := 66) hB dL_asked_1 (by decide) (by decide) rfl rfl ?_
  refine V.aload_n (pc := 66) hB dL_asked_66 rfl ?_
  refine V.iload_n (pc := 67) hB dL_asked_67 rfl ?_
  refine V.iload_n (pc := 68) hB dL_asked_68 rfl ?_
  refine V.cv (pc := 69) hB cw_X9_temperature wm_L_60 wi_X9_temperature ws_X9_temperature dL_asked_69 (hC) (hp_at (ca_Bells _)) fk_Bells rfl (by omega) (by decide) rfl (by exact Nat.le_of_ble_eq_true rfl) (by omega) (by omega) (fun E m2 sz hx => VX.outM hB hX (by omega) (by omega) hx) (kI (fun v_69 m_69 sz h_69 => ?_)) rfl
  refine V.bipush (pc := 72) (v := 100) hB dL_asked_72 rfl ?_
  refine V.iadd (pc := 74) hB dL_asked_74 ?_
  refine V.retI (pc := 75) hB dL_asked_75 rfl (rfl) (by omega) (by omega) ?_
  exact ⟨v_69, h_69, rfl⟩

set_option maxRecDepth 100000 in
set_option maxHeartbeats 4000000 in
theorem c_L_asked_2 {g : xG} (hG : GK g) {m : Mem} {a b : Int32} {P : Int32 → Mem → Prop} {PX : String → Mem → Prop} {d mc ms : Nat} (hC : CC g yX9_layerAt (.code yX9_layerAt cX9_layerAt 4 (some .int)) d mc ms [.ref (ad g 0), .int a, .int b] m (rI P) PX) : CC g yL_asked (.code yL_asked cL_asked 4 (some .int)) (d + 1) mc ms [.ref (ad g 0), .int 2, .int a, .int b] m (rI P) PX := by
  refine CC.mk hG RL rfl (by decide +kernel) rfl (Nat.le_of_ble_eq_true rfl) (fun sz B hB hX => ?_)
  show V g B 0 0 _ (hp g m) sz 0 [some (.ref (ad g 0)), some (.int 2), some (.int a), some (.int b)] []
  refine V.iload_n (pc := 0) hB dL_asked_0 rfl ?_
  refine V.tsw_in (pc := 1) (x := 2) (off := 75) (tgt := 76) hB dL_asked_1 (by decide) (by decide) rfl rfl ?_
  refine V.aload_n (pc := 76) hB dL_asked_76 rfl ?_
  refine V.iload_n (pc := 77) hB dL_asked_77 rfl ?_
  refine V.iload_n (pc := 78) hB dL_asked_78 rfl ?_
  refine V.cv (pc := 79) hB cw_X9_layerAt wm_L_63 wi_X9_layerAt ws_X9_layerAt dL_asked_79 (hC) (hp_at (ca_Bells _)) fk_Bells rfl (by omega) (by decide) rfl (by exact Nat.le_of_ble_eq_true rfl) (by omega) (by omega) (fun E m2 sz hx => VX.outM hB hX (by omega) (by omega) hx) (kI (fun v_79 m_79 sz h_79 => ?_)) rfl
  refine V.retI (pc := 82) hB dL_asked_82 rfl (rfl) (by omega) (by omega) ?_
  exact h_79

set_option maxRecDepth 100000 in
set_option maxHeartbeats 4000000 in
theorem c_L_asked_3 {g : xG} (hG : GK g) {m : Mem} {a b : Int32} {P : Int32 → Mem → Prop} {PX : String → Mem → Prop} {d mc ms : Nat} (hC : CC g yX9_hoursUntilCrack (.code yX9_hoursUntilCrack cX9_hoursUntilCrack 2 (some .int)) d mc ms [.ref (ad g 0)] m (rI P) PX) : CC g yL_asked (.code yL_asked cL_asked 4 (some .int)) (d + 1) mc ms [.ref (ad g 0), .int 3, .int a, .int b] m (rI P) PX := by
  refine CC.mk hG RL rfl (by decide +kernel) rfl (Nat.le_of_ble_eq_true rfl) (fun sz B hB hX => ?_)
  show V g B 0 0 _ (hp g m) sz 0 [some (.ref (ad g 0)), some (.int 3), some (.int a), some (.int b)] []
  refine V.iload_n (pc := 0) hB dL_asked_0 rfl ?_
  refine V.tsw_in (pc := 1) (x := 3) (off := 82) (tgt := 83) hB dL_asked_1 (by decide) (by decide) rfl rfl ?_
  refine V.aload_n (pc := 83) hB dL_asked_83 rfl ?_
  refine V.cv (pc := 84) hB cw_X9_hoursUntilCrack wm_L_66 wi_X9_hoursUntilCrack ws_X9_hoursUntilCrack dL_asked_84 (hC) (hp_at (ca_Bells _)) fk_Bells rfl (by omega) (by decide) rfl (by exact Nat.le_of_ble_eq_true rfl) (by omega) (by omega) (fun E m2 sz hx => VX.outM hB hX (by omega) (by omega) hx) (kI (fun v_84 m_84 sz h_84 => ?_)) rfl
  refine V.retI (pc := 87) hB dL_asked_87 rfl (rfl) (by omega) (by omega) ?_
  exact h_84

set_option maxRecDepth 100000 in
set_option maxHeartbeats 4000000 in
theorem c_L_asked_4 {g : xG} (hG : GK g) {m : Mem} {a b : Int32} {P : Int32 → Mem → Prop} {PX : String → Mem → Prop} {d mc ms : Nat} (hC : CC g yX9_hoursUntilThawed (.code yX9_hoursUntilThawed cX9_hoursUntilThawed 3 (some .int)) d mc ms [.ref (ad g 0), .int a] m (rI P) PX) : CC g yL_asked (.code yL_asked cL_asked 4 (some .int)) (d + 1) mc ms [.ref (ad g 0), .int 4, .int a, .int b] m (rI P) PX := by
  refine CC.mk hG RL rfl (by decide +kernel) rfl (Nat.le_of_ble_eq_true rfl) (fun sz B hB hX => ?_)
  show V g B 0 0 _ (hp g m) sz 0 [some (.ref (ad g 0)), some (.int 4), some (.int a), some (.int b)] []
  refine V.iload_n (pc := 0) hB dL_asked_0 rfl ?_
  refine V.tsw_in (pc := 1) (x := 4) (off := 87) (tgt := 88) hB dL_asked_1 (by decide) (by decide) rfl rfl ?_
  refine V.aload_n (pc := 88) hB dL_asked_88 rfl ?_
  refine V.iload_n (pc := 89) hB dL_asked_89 rfl ?_
  refine V.cv (pc := 90) hB cw_X9_hoursUntilThawed wm_L_69 wi_X9_hoursUntilThawed ws_X9_hoursUntilThawed dL_asked_90 (hC) (hp_at (ca_Bells _)) fk_Bells rfl (by omega) (by decide) rfl (by exact Nat.le_of_ble_eq_true rfl) (by omega) (by omega) (fun E m2 sz hx => VX.outM hB hX (by omega) (by omega) hx) (kI (fun v_90 m_90 sz h_90 => ?_)) rfl
  refine V.retI (pc := 93) hB dL_asked_93 rfl (rfl) (by omega) (by omega) ?_
  exact h_90

set_option maxRecDepth 100000 in
set_option maxHeartbeats 4000000 in
theorem c_L_asked_5 {g : xG} (hG : GK g) {m : Mem} {a b : Int32} {P : Int32 → Mem → Prop} {PX : String → Mem → Prop} {d mc ms : Nat} (hC : CC g yX9_windowFirst (.code yX9_windowFirst cX9_windowFirst 2 (some .int)) d mc ms [.ref (ad g 0), .int a] m (rI P) PX) : CC g yL_asked (.code yL_asked cL_asked 4 (some .int)) (d + 1) mc ms [.ref (ad g 0), .int 5, .int a, .int b] m (rI P) PX := by
  refine CC.mk hG RL rfl (by decide +kernel) rfl (Nat.le_of_ble_eq_true rfl) (fun sz B hB hX => ?_)
  show V g B 0 0 _ (hp g m) sz 0 [some (.ref (ad g 0)), some (.int 5), some (.int a), some (.int b)] []
  refine V.iload_n (pc := 0) hB dL_asked_0 rfl ?_
  refine V.tsw_in (pc := 1) (x := 5) (off := 93) (tgt := 94) hB dL_asked_1 (by decide) (by decide) rfl rfl ?_
  refine V.aload_n (pc := 94) hB dL_asked_94 rfl ?_
  refine V.iload_n (pc := 95) hB dL_asked_95 rfl ?_
  refine V.cv (pc := 96) hB cw_X9_windowFirst wm_L_72 wi_X9_windowFirst ws_X9_windowFirst dL_asked_96 (hC) (hp_at (ca_Bells _)) fk_Bells rfl (by omega) (by decide) rfl (by exact Nat.le_of_ble_eq_true rfl) (by omega) (by omega) (fun E m2 sz hx => VX.outM hB hX (by omega) (by omega) hx) (kI (fun v_96 m_96 sz h_96 => ?_)) rfl
  refine V.retI (pc := 99) hB dL_asked_99 rfl (rfl) (by omega) (by omega) ?_
  exact h_96

set_option maxRecDepth 100000 in
set_option maxHeartbeats 4000000 in
theorem c_L_asked_6 {g : xG} (hG : GK g) {m : Mem} {a b : Int32} {P : Int32 → Mem → Prop} {PX : String → Mem → Prop} {d mc ms : Nat} (hC : CC g yX9_pitch (.code yX9_pitch cX9_pitch 3 (some .int)) d mc ms [.ref (ad g 0), .int a, .int b] m (rI P) PX) : CC g yL_asked (.code yL_asked cL_asked 4 (some .int)) (d + 1) mc ms [.ref (ad g 0), .int 6, .int a, .int b] m (rI P) PX := by
  refine CC.mk hG RL rfl (by decide +kernel) rfl (Nat.le_of_ble_eq_true rfl) (fun sz B hB hX => ?_)
  show V g B 0 0 _ (hp g m) sz 0 [some (.ref (ad g 0)), some (.int 6), some (.int a), some (.int b)] []
  refine V.iload_n (pc := 0) hB dL_asked_0 rfl ?_
  refine V.tsw_in (pc := 1) (x := 6) (off := 99) (tgt := 100) hB dL_asked_1 (by decide) (by decide) rfl rfl ?_
  refine V.aload_n (pc := 100) hB dL_asked_100 rfl ?_
  refine V.iload_n (pc := 101) hB dL_asked_101 rfl ?_
  refine V.iload_n (pc := 102) hB dL_asked_102 rfl ?_
  refine V.cv (pc := 103) hB cw_X9_pitch wm_L_75 wi_X9_pitch ws_X9_pitch dL_asked_103 (hC) (hp_at (ca_Bells _)) fk_Bells rfl (by omega) (by decide) rfl (by exact Nat.le_of_ble_eq_true rfl) (by omega) (by omega) (fun E m2 sz hx => VX.outM hB hX (by omega) (by omega) hx) (kI (fun v_103 m_103 sz h_103 => ?_)) rfl
  refine V.retI (pc := 106) hB dL_asked_106 rfl (rfl) (by omega) (by omega) ?_
  exact h_103

set_option maxRecDepth 100000 in
set_option maxHeartbeats 4000000 in
theorem c_L_asked_7 {g : xG} (hG : GK g) {m : Mem} {a b : Int32} {P : Int32 → Mem → Prop} {PX : String → Mem → Prop} {d mc ms : Nat} (hC : CC g yX9_pealPitch (.code yX9_pealPitch cX9_pealPitch 2 (some .int)) d mc ms [.ref (ad g 0), .int a] m (rI P) PX) : CC g yL_asked (.code yL_asked cL_asked 4 (some .int)) (d + 1) mc ms [.ref (ad g 0), .int 7, .int a, .int b] m (rI P) PX := by
  refine CC.mk hG RL rfl (by decide +kernel) rfl (Nat.le_of_ble_eq_true rfl) (fun sz B hB hX => ?_)
  show V g B 0 0 _ (hp g m) sz 0 [some (.ref (ad g 0)), some (.int 7), some (.int a), some (.int b)] []
  refine V.iload_n (pc := 0) hB dL_asked_0 rfl ?_
  refine V.tsw_in (pc := 1) (x := 7) (off := 106) (tgt := 107) hB dL_asked_1 (by decide) (by decide) rfl rfl ?_
  refine V.aload_n (pc := 107) hB dL_asked_107 rfl ?_
  refine V.iload_n (pc := 108) hB dL_asked_108 rfl ?_
  refine V.cv (pc := 109) hB cw_X9_pealPitch wm_L_78 wi_X9_pealPitch ws_X9_pealPitch dL_asked_109 (hC) (hp_at (ca_Bells _)) fk_Bells rfl (by omega) (by decide) rfl (by exact Nat.le_of_ble_eq_true rfl) (by omega) (by omega) (fun E m2 sz hx => VX.outM hB hX (by omega) (by omega) hx) (kI (fun v_109 m_109 sz h_109 => ?_)) rfl
  refine V.retI (pc := 112) hB dL_asked_112 rfl (rfl) (by omega) (by omega) ?_
  exact h_109

set_option maxRecDepth 100000 in
set_option maxHeartbeats 4000000 in
theorem c_L_asked_8 {g : xG} (hG : GK g) {m : Mem} {a b : Int32} {P : Int32 → Mem → Prop} {PX : String → Mem → Prop} {d mc ms : Nat} (hC : CC g yX9_lakeAtRank (.code yX9_lakeAtRank cX9_lakeAtRank 3 (some .int)) d mc ms [.ref (ad g 0), .int a] m (rI P) PX) : CC g yL_asked (.code yL_asked cL_asked 4 (some .int)) (d + 1) mc ms [.ref (ad g 0), .int 8, .int a, .int b] m (rI P) PX := by
  refine CC.mk hG RL rfl (by decide +kernel) rfl (Nat.le_of_ble_eq_true rfl) (fun sz B hB hX => ?_)
  show V g B 0 0 _ (hp g m) sz 0 [some (.ref (ad g 0)), some (.int 8), some (.int a), some (.int b)] []
  refine V.iload_n (pc := 0) hB dL_asked_0 rfl ?_
  refine V.tsw_in (pc := 1) (x := 8) (off := 112) (tgt := 113) hB dL_asked_1 (by decide) (by decide) rfl rfl ?_
  refine V.aload_n (pc := 113) hB dL_asked_113 rfl ?_
  refine V.iload_n (pc := 114) hB dL_asked_114 rfl ?_
  refine V.cv (pc := 115) hB cw_X9_lakeAtRank wm_L_81 wi_X9_lakeAtRank ws_X9_lakeAtRank dL_asked_115 (hC) (hp_at (ca_Bells _)) fk_Bells rfl (by omega) (by decide) rfl (by exact Nat.le_of_ble_eq_true rfl) (by omega) (by omega) (fun E m2 sz hx => VX.outM hB hX (by omega) (by omega) hx) (kI (fun v_115 m_115 sz h_115 => ?_)) rfl
  refine V.retI (pc := 118) hB dL_asked_118 rfl (rfl) (by omega) (by omega) ?_
  exact h_115

theorem wca_IA : Cond.castable "java/lang/IllegalArgumentException" "java/lang/IllegalArgumentException" ∈ lw_tbl := List.mem_of_getElem? (i := 450) (by decide +kernel)
theorem wca_IS : Cond.castable "java/lang/IllegalStateException" "java/lang/IllegalStateException" ∈ lw_tbl := List.mem_of_getElem? (i := 466) (by decide +kernel)
theorem wca_IO : Cond.castable "java/lang/IndexOutOfBoundsException" "java/lang/IndexOutOfBoundsException" ∈ lw_tbl := List.mem_of_getElem? (i := 437) (by decide +kernel)
theorem wca_UO : Cond.castable "java/lang/UnsupportedOperationException" "java/lang/UnsupportedOperationException" ∈ lw_tbl := List.mem_of_getElem? (i := 482) (by decide +kernel)
theorem wca_NS : Cond.castable "java/util/NoSuchElementException" "java/util/NoSuchElementException" ∈ lw_tbl := List.mem_of_getElem? (i := 873) (by decide +kernel)
theorem ncx_IA_IO : NCx "java/lang/IllegalArgumentException" "java/lang/IndexOutOfBoundsException" := by unfold NCx; decide +kernel
theorem ncx_IS_IA : NCx "java/lang/IllegalStateException" "java/lang/IllegalArgumentException" := by unfold NCx; decide +kernel
theorem ncx_IS_IO : NCx "java/lang/IllegalStateException" "java/lang/IndexOutOfBoundsException" := by unfold NCx; decide +kernel
theorem ncx_UO_IA : NCx "java/lang/UnsupportedOperationException" "java/lang/IllegalArgumentException" := by unfold NCx; decide +kernel
theorem ncx_UO_IS : NCx "java/lang/UnsupportedOperationException" "java/lang/IllegalStateException" := by unfold NCx; decide +kernel
theorem ncx_UO_IO : NCx "java/lang/UnsupportedOperationException" "java/lang/IndexOutOfBoundsException" := by unfold NCx; decide +kernel
theorem ncx_UO_NS : NCx "java/lang/UnsupportedOperationException" "java/util/NoSuchElementException" := by unfold NCx; decide +kernel
theorem ncx_NS_IO : NCx "java/util/NoSuchElementException" "java/lang/IndexOutOfBoundsException" := by unfold NCx; decide +kernel
theorem cwx_L_deed : CWW yL_deed cL_deed 6 (some .int) [(0, 9, 10, 49), (0, 9, 16, 51), (0, 9, 22, 53), (0, 9, 28, 55)] 5 := ⟨WD.at 337 (by decide +kernel) rfl, wn_L, by decide +kernel⟩
set_option maxRecDepth 100000 in
set_option maxHeartbeats 1000000 in
theorem c_L_deed {g : xG} (hG : GK g) {m : Mem} {w a b c : Int32} {P : Int32 → Mem → Prop} {PX : String → Mem → Prop} {d mc ms : Nat} (hC : CC g yL_plain (.code yL_plain cL_plain 5 (some .int)) d mc ms [.ref (ad g 0), .int w, .int a, .int b, .int c] m (rI P) PX) (hPX : ∀ E m', PX E m' → E = "java/lang/IndexOutOfBoundsException" ∨ E = "java/lang/IllegalArgumentException" ∨ E = "java/lang/IllegalStateException" ∨ E = "java/lang/UnsupportedOperationException") : CC g yL_deed (.codeWith yL_deed cL_deed 6 (some .int) [(0, 9, 10, 49), (0, 9, 16, 51), (0, 9, 22, 53), (0, 9, 28, 55)]) (d + 1) mc ms [.ref (ad g 0), .int w, .int a, .int b, .int c] m (rI (fun v m2 => P v m2 ∨ (v = -2002 ∧ PX "java/lang/IndexOutOfBoundsException" m2) ∨ (v = -2003 ∧ PX "java/lang/IllegalArgumentException" m2) ∨ (v = -2005 ∧ PX "java/lang/IllegalStateException" m2) ∨ (v = -2001 ∧ PX "java/lang/UnsupportedOperationException" m2))) noX := by
  refine CC.mkH hG RL rfl (by decide +kernel) rfl (Nat.le_of_ble_eq_true rfl) (fun sz B hB hX => ?_)
  show V g B 0 0 _ (hp g m) sz 0 [some (.ref (ad g 0)), some (.int w), some (.int a), some (.int b), some (.int c), none] []
  refine V.aload_n (pc := 0) hB dL_deed_0 rfl ?_
  refine V.iload_n (pc := 1) hB dL_deed_1 rfl ?_
  refine V.iload_n (pc := 2) hB dL_deed_2 rfl ?_
  refine V.iload_n (pc := 3) hB dL_deed_3 rfl ?_
  refine V.iload (pc := 4) hB dL_deed_4 rfl ?_
  refine V.cs (pc := 6) hB cw_L_plain wm_L_45 wst_L_plain dL_deed_6 hC (by omega) (by decide) rfl (by exact Nat.le_of_ble_eq_true rfl) (by omega) (by omega) (fun E m1 sz h => ?_) (kI (fun r m1 sz h => ?_)) rfl
  · rcases hPX E m1 h with rfl | rfl | rfl | rfl
    · refine VX.catch hB hX [] (0, 9, 10, 49) [(0, 9, 16, 51), (0, 9, 22, 53), (0, 9, 28, 55)] rfl (fun _ h => absurd h List.not_mem_nil) rfl (by decide) wc_L_49 wca_IO (fun a => ?_)
      refine V.astore (pc := 10) hB dL_deed_10 (by decide) rfl ?_
      refine V.sipush (pc := 12) (v := (-2002)) hB dL_deed_12 rfl ?_
      exact V.retI (pc := 15) hB dL_deed_15 rfl rfl (by omega) (by omega) (Or.inr (Or.inl ⟨rfl, h⟩))
    · refine VX.catch hB hX [(0, 9, 10, 49)] (0, 9, 16, 51) [(0, 9, 22, 53), (0, 9, 28, 55)] rfl (List.forall_mem_cons.mpr ⟨⟨by decide, _, wc_L_49, ncx_IA_IO⟩, fun _ h => absurd h List.not_mem_nil⟩) rfl (by decide) wc_L_51 wca_IA (fun a => ?_)
      refine V.astore (pc := 16) hB dL_deed_16 (by decide) rfl ?_
      refine V.sipush (pc := 18) (v := (-2003)) hB dL_deed_18 rfl ?_
      exact V.retI (pc := 21) hB dL_deed_21 rfl rfl (by omega) (by omega) (Or.inr (Or.inr (Or.inl ⟨rfl, h⟩)))
    · refine VX.catch hB hX [(0, 9, 10, 49), (0, 9, 16, 51)] (0, 9, 22, 53) [(0, 9, 28, 55)] rfl (List.forall_mem_cons.mpr ⟨⟨by decide, _, wc_L_49, ncx_IS_IO⟩, List.forall_mem_cons.mpr ⟨⟨by decide, _, wc_L_51, ncx_IS_IA⟩, fun _ h => absurd h List.not_mem_nil⟩⟩) rfl (by decide) wc_L_53 wca_IS (fun a => ?_)
      refine V.astore (pc := 22) hB dL_deed_22 (by decide) rfl ?_
      refine V.sipush (pc := 24) (v := (-2005)) hB dL_deed_24 rfl ?_
      exact V.retI (pc := 27) hB dL_deed_27 rfl rfl (by omega) (by omega) (Or.inr (Or.inr (Or.inr (Or.inl ⟨rfl, h⟩))))
    · refine VX.catch hB hX [(0, 9, 10, 49), (0, 9, 16, 51), (0, 9, 22, 53)] (0, 9, 28, 55) [] rfl (List.forall_mem_cons.mpr ⟨⟨by decide, _, wc_L_49, ncx_UO_IO⟩, List.forall_mem_cons.mpr ⟨⟨by decide, _, wc_L_51, ncx_UO_IA⟩, List.forall_mem_cons.mpr ⟨⟨by decide, _, wc_L_53, ncx_UO_IS⟩, fun _ h => absurd h List.not_mem_nil⟩⟩⟩) rfl (by decide) wc_L_55 wca_UO (fun a => ?_)
      refine V.astore (pc := 28) hB dL_deed_28 (by decide) rfl ?_
      refine V.sipush (pc := 30) (v := (-2001)) hB dL_deed_30 rfl ?_
      exact V.retI (pc := 33) hB dL_deed_33 rfl rfl (by omega) (by omega) (Or.inr (Or.inr (Or.inr (Or.inr (⟨rfl, h⟩)))))
  · exact V.retI (pc := 9) hB dL_deed_9 rfl rfl (by omega) (by omega) (Or.inl h)

theorem cwx_L_ask : CWW yL_ask cL_ask 5 (some .int) [(0, 7, 8, 49), (0, 7, 14, 98), (0, 7, 20, 55)] 4 := ⟨WD.at 838 (by decide +kernel) rfl, wn_L, by decide +kernel⟩
set_option maxRecDepth 100000 in
set_option maxHeartbeats 1000000 in
theorem c_L_ask {g : xG} (hG : GK g) {m : Mem} {w a b : Int32} {P : Int32 → Mem → Prop} {PX : String → Mem → Prop} {d mc ms : Nat} (hC : CC g yL_asked (.code yL_asked cL_asked 4 (some .int)) d mc ms [.ref (ad g 0), .int w, .int a, .int b] m (rI P) PX) (hPX : ∀ E m', PX E m' → E = "java/lang/IndexOutOfBoundsException" ∨ E = "java/util/NoSuchElementException" ∨ E = "java/lang/UnsupportedOperationException") : CC g yL_ask (.codeWith yL_ask cL_ask 5 (some .int) [(0, 7, 8, 49), (0, 7, 14, 98), (0, 7, 20, 55)]) (d + 1) mc ms [.ref (ad g 0), .int w, .int a, .int b] m (rI (fun v m2 => P v m2 ∨ (v = -2002 ∧ PX "java/lang/IndexOutOfBoundsException" m2) ∨ (v = -2004 ∧ PX "java/util/NoSuchElementException" m2) ∨ (v = -2001 ∧ PX "java/lang/UnsupportedOperationException" m2))) noX := by
  refine CC.mkH hG RL rfl (by decide +kernel) rfl (Nat.le_of_ble_eq_true rfl) (fun sz B hB hX => ?_)
  show V g B 0 0 _ (hp g m) sz 0 [some (.ref (ad g 0)), some (.int w), some (.int a), some (.int b), none] []
  refine V.aload_n (pc := 0) hB dL_ask_0 rfl ?_
  refine V.iload_n (pc := 1) hB dL_ask_1 rfl ?_
  refine V.iload_n (pc := 2) hB dL_ask_2 rfl ?_
  refine V.iload_n (pc := 3) hB dL_ask_3 rfl ?_
  refine V.cs (pc := 4) hB cw_L_asked wm_L_94 wst_L_asked dL_ask_4 hC (by omega) (by decide) rfl (by exact Nat.le_of_ble_eq_true rfl) (by omega) (by omega) (fun E m1 sz h => ?_) (kI (fun r m1 sz h => ?_)) rfl
  · rcases hPX E m1 h with rfl | rfl | rfl
    · refine VX.catch hB hX [] (0, 7, 8, 49) [(0, 7, 14, 98), (0, 7, 20, 55)] rfl (fun _ h => absurd h List.not_mem_nil) rfl (by decide) wc_L_49 wca_IO (fun a => ?_)
      refine V.astore (pc := 8) hB dL_ask_8 (by decide) rfl ?_
      refine V.sipush (pc := 10) (v := (-2002)) hB dL_ask_10 rfl ?_
      exact V.retI (pc := 13) hB dL_ask_13 rfl rfl (by omega) (by omega) (Or.inr (Or.inl ⟨rfl, h⟩))
    · refine VX.catch hB hX [(0, 7, 8, 49)] (0, 7, 14, 98) [(0, 7, 20, 55)] rfl (List.forall_mem_cons.mpr ⟨⟨by decide, _, wc_L_49, ncx_NS_IO⟩, fun _ h => absurd h List.not_mem_nil⟩) rfl (by decide) wc_L_98 wca_NS (fun a => ?_)
      refine V.astore (pc := 14) hB dL_ask_14 (by decide) rfl ?_
      refine V.sipush (pc := 16) (v := (-2004)) hB dL_ask_16 rfl ?_
      exact V.retI (pc := 19) hB dL_ask_19 rfl rfl (by omega) (by omega) (Or.inr (Or.inr (Or.inl ⟨rfl, h⟩)))
    · refine VX.catch hB hX [(0, 7, 8, 49), (0, 7, 14, 98)] (0, 7, 20, 55) [] rfl (List.forall_mem_cons.mpr ⟨⟨by decide, _, wc_L_49, ncx_UO_IO⟩, List.forall_mem_cons.mpr ⟨⟨by decide, _, wc_L_98, ncx_UO_NS⟩, fun _ h => absurd h List.not_mem_nil⟩⟩) rfl (by decide) wc_L_55 wca_UO (fun a => ?_)
      refine V.astore (pc := 20) hB dL_ask_20 (by decide) rfl ?_
      refine V.sipush (pc := 22) (v := (-2001)) hB dL_ask_22 rfl ?_
      exact V.retI (pc := 25) hB dL_ask_25 rfl rfl (by omega) (by omega) (Or.inr (Or.inr (Or.inr (⟨rfl, h⟩))))
  · exact V.retI (pc := 7) hB dL_ask_7 rfl rfl (by omega) (by omega) (Or.inl h)
