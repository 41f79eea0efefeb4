theorem LN.lt {m : Mem} {i j N : Nat} (h : LN m i j N) : N ≤ 8 := h.2
theorem nI1 (q : Nat) : nI q + 1 = nI (q + 1) := nI_1 q

set_option maxRecDepth 100000 in
set_option maxHeartbeats 4000000 in
theorem c_X5_pitchOf {g : xG} (hG : GK g) {i j : Nat} (hi : i < 11) (hj : j < 5) {m : Mem} {q : Nat} (hq : q < 8) : CC g yX5_pitchOf (.code yX5_pitchOf cX5_pitchOf 2 (some .int)) 2 0 0 [.ref (ad g (LK i j)), .int (nI q)] m (rI (fun v m2 => v = pitchV (m.1 (LK i j + 1)) (m.1 (LK i j + 2)) q ∧ m2 = m)) noX := by
  refine CC.mk hG RX5 rfl (by decide +kernel) rfl (Nat.le_of_ble_eq_true rfl) (fun sz B hB hX => ?_)
  show V g B 0 0 _ (hp g m) sz 0 [some (.ref (ad g (LK i j))), some (.int (nI q))] []
  refine V.bipush (pc := 0) (v := 100) hB dX5_pitchOf_0 rfl ?_
  refine V.iconst (pc := 2) (v := 1) hB dX5_pitchOf_2 rfl ?_
  refine V.aload_n (pc := 3) hB dX5_pitchOf_3 rfl ?_
  refine V.get (pc := 4) hB fk_Lake 0 wf_X5_9 dX5_pitchOf_4 (by decide) (hp_at (ca_Lake (by omega) (by omega) _)) rfl ?_
  refine V.iload_n (pc := 7) hB dX5_pitchOf_7 rfl ?_
  refine V.ialdM (pc := 8) hB (ca_LThick (by omega) (by omega)) dX5_pitchOf_8 (ix_nI (by omega) (by decide)) ?_
  refine V.cs (pc := 9) hB cw_J9_max_7cf53 wm_X5_71 wst_J9_max_7cf53 dX5_pitchOf_9 (c_J9_max_7cf53 hG) (by omega) (by decide) rfl (by exact Nat.le_of_ble_eq_true rfl) (by omega) (by omega) kN (kI (fun v_9 m_9 sz h_9 => ?_)) rfl
  obtain ⟨rfl, rfl⟩ := h_9
  refine V.idiv (pc := 12) hB dX5_pitchOf_12 (max1_ne) ?_
  refine V.aload_n (pc := 13) hB dX5_pitchOf_13 rfl ?_
  refine V.get (pc := 14) hB fk_Lake 1 wf_X5_15 dX5_pitchOf_14 (by decide) (hp_at (ca_Lake (by omega) (by omega) _)) rfl ?_
  refine V.iload_n (pc := 17) hB dX5_pitchOf_17 rfl ?_
  refine V.ialdM (pc := 18) hB (ca_LTemp (by omega) (by omega)) dX5_pitchOf_18 (ix_nI (by omega) (by decide)) ?_
  refine V.isub (pc := 19) hB dX5_pitchOf_19 ?_
  refine V.retI (pc := 20) hB dX5_pitchOf_20 rfl (rfl) (by omega) (by omega) ?_
  exact ⟨rfl, rfl⟩

set_option maxRecDepth 100000 in
set_option maxHeartbeats 4000000 in
theorem c_X5_pushNeighbour {g : xG} (hG : GK g) {i j : Nat} (hi : i < 11) (hj : j < 5) {m : Mem} {N : Nat} (hN : LN m i j N) {x : Int32} : CC g yX5_pushNeighbour (.code yX5_pushNeighbour cX5_pushNeighbour 2 none) 2 0 0 [.ref (ad g (LK i j)), .int x] m (rV (fun m2 => m2 = pushM i j N x m)) noX := by
  refine CC.mk hG RX5 rfl (by decide +kernel) rfl (Nat.le_of_ble_eq_true rfl) (fun sz B hB hX => ?_)
  show V g B 0 0 _ (hp g m) sz 0 [some (.ref (ad g (LK i j))), some (.int x)] []
  refine V.aload_n (pc := 0) hB dX5_pushNeighbour_0 rfl ?_
  refine V.iload_n (pc := 1) hB dX5_pushNeighbour_1 rfl ?_
  refine V.cv (pc := 2) hB cw_X5_hasLayer wm_X5_49 wi_X5_hasLayer ws_X5_hasLayer dX5_pushNeighbour_2 (c_X5_hasLayer hG hi hj hN (x := x)) (hp_at (ca_Lake (by omega) (by omega) _)) fk_Lake rfl (by omega) (by decide) rfl (by exact Nat.le_of_ble_eq_true rfl) (by omega) (by omega) kN (kI (fun v_2 m_2 sz h_2 => ?_)) rfl
  obtain ⟨rfl, rfl⟩ := h_2
  refine V.if_eq (pc := 5) (tgt := 18) hB dX5_pushNeighbour_5 (by decide) (fun c_5 => ?_) (fun c_5 => ?_)
  · have hc : ¬ (0 ≤ x ∧ x < nI N) := fun z => by rw [if_pos z] at c_5; exact absurd c_5 (by decide)
    refine V.retV (pc := 18) hB dX5_pushNeighbour_18 rfl (by omega) (by omega) ?_
    first | exact (if_pos hc).symm | exact (if_neg hc).symm
  · have hc : 0 ≤ x ∧ x < nI N := Decidable.byContradiction (fun z => c_5 (if_neg z))
    have hN8 := hN.2
    refine V.aload_n (pc := 8) hB dX5_pushNeighbour_8 rfl ?_
    refine V.get (pc := 9) hB fk_Lake 2 wf_X5_18 dX5_pushNeighbour_9 (by decide) (hp_at (ca_Lake (by omega) (by omega) _)) rfl ?_
    refine V.iload_n (pc := 12) hB dX5_pushNeighbour_12 rfl ?_
    refine V.dup2 (pc := 13) hB dX5_pushNeighbour_13 rfl rfl ?_
    refine V.ialdM (pc := 14) hB (ca_LStrain (by omega) (by omega)) dX5_pushNeighbour_14 (ix_of hc.1 hc.2 (by omega) (by omega)) ?_
    refine V.iconst (pc := 15) (v := 5) hB dX5_pushNeighbour_15 rfl ?_
    refine V.iadd (pc := 16) hB dX5_pushNeighbour_16 ?_
    refine V.iastM (pc := 17) hB (ca_LStrain (by omega) (by omega)) dX5_pushNeighbour_17 (ix_of hc.1 hc.2 (by omega) (by omega)) (ne_LK (by omega) (by omega) (by omega)) ?_
    refine V.retV (pc := 18) hB dX5_pushNeighbour_18 rfl (by omega) (by omega) ?_
    first | exact (if_pos hc).symm | exact (if_neg hc).symm

set_option maxRecDepth 100000 in
set_option maxHeartbeats 4000000 in
theorem c_X5_addStrains {g : xG} (hG : GK g) {i j : Nat} (hi : i < 11) (hj : j < 5) {m : Mem} {N : Nat} (hN : LN m i j N) : CC g yX5_addStrains (.code yX5_addStrains cX5_addStrains 2 none) 3 0 0 [.ref (ad g (LK i j))] m (rV (fun m2 => m2 = setRow m (LK i j + 3) (upto N (addS (m.1 (LK i j + 2)) (m.1 (LK i j + 3)) N) (m.1 (LK i j + 3))))) noX := by
  refine CC.mk hG RX5 rfl (by decide +kernel) rfl (Nat.le_of_ble_eq_true rfl) (fun sz B hB hX => ?_)
  show V g B 0 0 _ (hp g m) sz 0 [some (.ref (ad g (LK i j))), none] []
  have loop : ∀ q : Nat, q ≤ N → ∀ (sz : Nat), V g B 0 0 (QM g B 0 0 (rV (fun m2 => m2 = setRow m (LK i j + 3) (upto N (addS (m.1 (LK i j + 2)) (m.1 (LK i j + 3)) N) (m.1 (LK i j + 3))))) noX) (hp g ((setRow m (LK i j + 3) (upto q (addS (m.1 (LK i j + 2)) (m.1 (LK i j + 3)) N) (m.1 (LK i j + 3)))))) sz 2 [some (.ref (ad g (LK i j))), some (.int (nI q))] [] := by
    refine loop_up (fun q hq ih => ?_)
    intro sz
    have hN8 := hN.2
    have hN2 : LN (setRow m (LK i j + 3) (upto q (addS (m.1 (LK i j + 2)) (m.1 (LK i j + 3)) N) (m.1 (LK i j + 3)))) i j N := hN.row _ (by omega)
    refine V.iload_n (pc := 2) hB dX5_addStrains_2 rfl ?_
    refine V.aload_n (pc := 3) hB dX5_addStrains_3 rfl ?_
    refine V.get (pc := 4) hB fk_Lake 3 wf_X5_21 dX5_addStrains_4 (by decide) (hp_at (ca_Lake (by omega) (by omega) _)) rfl ?_
    refine V.icmp_ge (pc := 7) (tgt := 40) hB dX5_addStrains_7 (by decide) (fun c_7 => ?_) (fun c_7 => ?_)
    · have hqN : q = N := nge hN2.1 (by omega) hq c_7
      refine V.retV (pc := 40) hB dX5_addStrains_40 rfl (by omega) (by omega) ?_
      rw [hqN]
    · have hlt : q < N := nlt hN2.1 (by omega) hq c_7
      refine V.aload_n (pc := 10) hB dX5_addStrains_10 rfl ?_
      refine V.get (pc := 11) hB fk_Lake 2 wf_X5_18 dX5_addStrains_11 (by decide) (hp_at (ca_Lake (by omega) (by omega) _)) rfl ?_
      refine V.iload_n (pc := 14) hB dX5_addStrains_14 rfl ?_
      refine V.dup2 (pc := 15) hB dX5_addStrains_15 rfl rfl ?_
      refine V.ialdM (pc := 16) hB (ca_LStrain (by omega) (by omega)) dX5_addStrains_16 (ix_nI (by omega) (by decide)) ?_
      refine V.aload_n (pc := 17) hB dX5_addStrains_17 rfl ?_
      refine V.get (pc := 18) hB fk_Lake 1 wf_X5_15 dX5_addStrains_18 (by decide) (hp_at (ca_Lake (by omega) (by omega) _)) rfl ?_
      refine V.iload_n (pc := 21) hB dX5_addStrains_21 rfl ?_
      refine V.ialdM (pc := 22) hB (ca_LTemp (by omega) (by omega)) dX5_addStrains_22 (ix_nI (by omega) (by decide)) ?_
      refine V.aload_n (pc := 23) hB dX5_addStrains_23 rfl ?_
      refine V.iload_n (pc := 24) hB dX5_addStrains_24 rfl ?_
      refine V.cv (pc := 25) hB cw_X5_temperatureBeneath wm_X5_45 wi_X5_temperatureBeneath ws_X5_temperatureBeneath dX5_addStrains_25 (c_X5_temperatureBeneath hG hi hj hN2 hlt) (hp_at (ca_Lake (by omega) (by omega) _)) fk_Lake rfl (by omega) (by decide) rfl (by exact Nat.le_of_ble_eq_true rfl) (by omega) (by omega) kN (kI (fun v_25 m_25 sz h_25 => ?_)) rfl
      obtain ⟨rfl, rfl⟩ := h_25
      rw [setRow_same, upto_ge (Nat.le_refl q), setRow_cell _ _ (by omega : LK i j + 2 ≠ LK i j + 3)]
      refine V.isub (pc := 28) hB dX5_addStrains_28 ?_
      refine V.cs (pc := 29) hB cw_J9_abs_0f7a4 wm_X5_53 wst_J9_abs_0f7a4 dX5_addStrains_29 (c_J9_abs_0f7a4 hG) (by omega) (by decide) rfl (by exact Nat.le_of_ble_eq_true rfl) (by omega) (by omega) kN (kI (fun v_29 m_29 sz h_29 => ?_)) rfl
      obtain ⟨rfl, rfl⟩ := h_29
      refine V.iadd (pc := 32) hB dX5_addStrains_32 ?_
      refine V.iastM (pc := 33) hB (ca_LStrain (by omega) (by omega)) dX5_addStrains_33 (ix_nI (by omega) (by decide)) (ne_LK (by omega) (by omega) (by omega)) ?_
      refine V.mem (m2 := (setRow m (LK i j + 3) (upto (q + 1) (addS (m.1 (LK i j + 2)) (m.1 (LK i j + 3)) N) (m.1 (LK i j + 3))))) (up_set _ _ _ _ _ _ (upto_succ rfl)) ?_
      refine V.iinc (pc := 34) (v := nI (q + 1)) hB dX5_addStrains_34 rfl (nI_1 _) (by decide) rfl ?_
      refine V.goto (pc := 37) (tgt := 2) hB dX5_addStrains_37 (by decide) ?_
      exact ih hlt sz
  refine V.iconst (pc := 0) (v := 0) hB dX5_addStrains_0 rfl ?_
  refine V.istore_n (pc := 1) hB dX5_addStrains_1 (by decide) rfl ?_
  have h0 := loop 0 (by omega) sz
  rw [upto_zero, setRow_id] at h0
  exact h0

theorem shift_at (f : Nat → Int32) (q : Nat) : shiftRow f q (q + 1) = f (q + 1) := upto_ge (Nat.le_succ q)
theorem shift_succ (f : Nat → Int32) (q : Nat) : ∀ y, shiftRow f (q + 1) y = if y = q then f (q + 1) else shiftRow f q y := upto_succ rfl
theorem shift_zero (f : Nat → Int32) : shiftRow f 0 = f := upto_zero _ _
theorem setRow_comm (m : Mem) {a b : Nat} (f f' : Nat → Int32) (h : a ≠ b) : setRow (setRow m a f) b f' = setRow (setRow m b f') a f := by
  refine Prod.ext ?_ rfl
  funext q
  by_cases ha : q = a
  · subst ha; rw [setRow_cell _ _ h, setRow_same, setRow_same]
  · by_cases hb : q = b
    · subst hb; rw [setRow_same, setRow_cell _ _ ha, setRow_same]
    · rw [setRow_cell _ _ hb, setRow_cell _ _ ha, setRow_cell _ _ ha, setRow_cell _ _ hb]
/-- the three rows of a lake set -/
def set3 (m : Mem) (a : Nat) (f1 f2 f3 : Nat → Int32) : Mem := setRow (setRow (setRow m (a + 1) f1) (a + 2) f2) (a + 3) f3
theorem set3_1 (m : Mem) (a : Nat) (f1 f2 f3 : Nat → Int32) : (set3 m a f1 f2 f3).1 (a + 1) = f1 := by unfold set3; rw [setRow_cell _ _ (by omega), setRow_cell _ _ (by omega), setRow_same]
theorem set3_2 (m : Mem) (a : Nat) (f1 f2 f3 : Nat → Int32) : (set3 m a f1 f2 f3).1 (a + 2) = f2 := by unfold set3; rw [setRow_cell _ _ (by omega), setRow_same]
theorem set3_3 (m : Mem) (a : Nat) (f1 f2 f3 : Nat → Int32) : (set3 m a f1 f2 f3).1 (a + 3) = f3 := setRow_same _ _ _
theorem set3_o (m : Mem) (a : Nat) (f1 f2 f3 : Nat → Int32) {k : Nat} (h : k < a + 1 ∨ a + 3 < k) : (set3 m a f1 f2 f3).1 k = m.1 k := by unfold set3; rw [setRow_cell _ _ (by omega), setRow_cell _ _ (by omega), setRow_cell _ _ (by omega)]
theorem set3_ext {m m' : Mem} {a : Nat} {f1 f2 f3 : Nat → Int32} (h1 : m'.1 (a + 1) = f1) (h2 : m'.1 (a + 2) = f2) (h3 : m'.1 (a + 3) = f3) (ho : ∀ k, (k < a + 1 ∨ a + 3 < k) → m'.1 k = m.1 k) (hs : m'.2 = m.2) : m' = set3 m a f1 f2 f3 := by
  refine Prod.ext ?_ hs
  funext k
  by_cases h : k < a + 1 ∨ a + 3 < k
  · rw [ho k h, set3_o _ _ _ _ _ h]
  · have : k = a + 1 ∨ k = a + 2 ∨ k = a + 3 := by omega
    rcases this with rfl | rfl | rfl
    · rw [h1, set3_1]
    · rw [h2, set3_2]
    · rw [h3, set3_3]
theorem set3_up1 (m : Mem) (a : Nat) (f1 f2 f3 f' : Nat → Int32) (j : Nat) (v : Int32) (h : ∀ y, f' y = if y = j then v else f1 y) : up (set3 m a f1 f2 f3) (a + 1) j v = set3 m a f' f2 f3 := by
  refine set3_ext ?_ ?_ ?_ (fun k hk => ?_) rfl
  · rw [up_row, set3_1]; funext y; rw [h y]; rfl
  · rw [up_cell _ _ _ (by omega), set3_2]
  · rw [up_cell _ _ _ (by omega), set3_3]
  · rw [up_cell _ _ _ (by omega), set3_o _ _ _ _ _ hk]
theorem set3_up2 (m : Mem) (a : Nat) (f1 f2 f3 f' : Nat → Int32) (j : Nat) (v : Int32) (h : ∀ y, f' y = if y = j then v else f2 y) : up (set3 m a f1 f2 f3) (a + 2) j v = set3 m a f1 f' f3 := by
  refine set3_ext ?_ ?_ ?_ (fun k hk => ?_) rfl
  · rw [up_cell _ _ _ (by omega), set3_1]
  · rw [up_row, set3_2]; funext y; rw [h y]; rfl
  · rw [up_cell _ _ _ (by omega), set3_3]
  · rw [up_cell _ _ _ (by omega), set3_o _ _ _ _ _ hk]
theorem set3_up3 (m : Mem) (a : Nat) (f1 f2 f3 f' : Nat → Int32) (j : Nat) (v : Int32) (h : ∀ y, f' y = if y = j then v else f3 y) : up (set3 m a f1 f2 f3) (a + 3) j v = set3 m a f1 f2 f' := by
  refine set3_ext ?_ ?_ ?_ (fun k hk => ?_) rfl
  · rw [up_cell _ _ _ (by omega), set3_1]
  · rw [up_cell _ _ _ (by omega), set3_2]
  · rw [up_row, set3_3]; funext y; rw [h y]; rfl
  · rw [up_cell _ _ _ (by omega), set3_o _ _ _ _ _ hk]
theorem dropM_eq (i j N : Nat) (m : Mem) : dropM i j N m = set3 (up m (LK i j) 3 (nI (N - 1))) (LK i j) (shiftRow (m.1 (LK i j + 1)) (N - 1)) (shiftRow (m.1 (LK i j + 2)) (N - 1)) (shiftRow (m.1 (LK i j + 3)) (N - 1)) := rfl

set_option maxRecDepth 100000 in
set_option maxHeartbeats 4000000 in
theorem c_X5_dropTop {g : xG} (hG : GK g) {i j : Nat} (hi : i < 11) (hj : j < 5) {m : Mem} {N : Nat} (hN : LN m i j N) (h0 : 0 < N) : CC g yX5_dropTop (.code yX5_dropTop cX5_dropTop 2 none) 2 0 0 [.ref (ad g (LK i j))] m (rV (fun m2 => m2 = dropM i j N m)) noX := by
  refine CC.mk hG RX5 rfl (by decide +kernel) rfl (Nat.le_of_ble_eq_true rfl) (fun sz B hB hX => ?_)
  show V g B 0 0 _ (hp g m) sz 0 [some (.ref (ad g (LK i j))), none] []
  have loop : ∀ q : Nat, q ≤ N - 1 → ∀ (sz : Nat), V g B 0 0 (QM g B 0 0 (rV (fun m2 => m2 = dropM i j N m)) noX) (hp g ((set3 (up m (LK i j) 3 (nI (N - 1))) (LK i j) (shiftRow (m.1 (LK i j + 1)) (q)) (shiftRow (m.1 (LK i j + 2)) (q)) (shiftRow (m.1 (LK i j + 3)) (q))))) sz 12 [some (.ref (ad g (LK i j))), some (.int (nI q))] [] := by
    refine loop_up (fun q hq ih => ?_)
    intro sz
    have hN8 := hN.2
    have hc : (set3 (up m (LK i j) 3 (nI (N - 1))) (LK i j) (shiftRow (m.1 (LK i j + 1)) (q)) (shiftRow (m.1 (LK i j + 2)) (q)) (shiftRow (m.1 (LK i j + 3)) (q))).1 (LK i j) 3 = nI (N - 1) := by rw [set3_o _ _ _ _ _ (by omega), up_same]
    refine V.iload_n (pc := 12) hB dX5_dropTop_12 rfl ?_
    refine V.aload_n (pc := 13) hB dX5_dropTop_13 rfl ?_
    refine V.get (pc := 14) hB fk_Lake 3 wf_X5_21 dX5_dropTop_14 (by decide) (hp_at (ca_Lake (by omega) (by omega) _)) rfl ?_
    refine V.icmp_ge (pc := 17) (tgt := 68) hB dX5_dropTop_17 (by decide) (fun c_17 => ?_) (fun c_17 => ?_)
    · have hqN : q = N - 1 := nge hc (by omega) hq c_17
      refine V.retV (pc := 68) hB dX5_dropTop_68 rfl (by omega) (by omega) ?_
      rw [hqN, dropM_eq]
    · have hlt : q < N - 1 := nlt hc (by omega) hq c_17
      refine V.aload_n (pc := 20) hB dX5_dropTop_20 rfl ?_
      refine V.get (pc := 21) hB fk_Lake 0 wf_X5_9 dX5_dropTop_21 (by decide) (hp_at (ca_Lake (by omega) (by omega) _)) rfl ?_
      refine V.iload_n (pc := 24) hB dX5_dropTop_24 rfl ?_
      refine V.aload_n (pc := 25) hB dX5_dropTop_25 rfl ?_
      refine V.get (pc := 26) hB fk_Lake 0 wf_X5_9 dX5_dropTop_26 (by decide) (hp_at (ca_Lake (by omega) (by omega) _)) rfl ?_
      refine V.iload_n (pc := 29) hB dX5_dropTop_29 rfl ?_
      refine V.iconst (pc := 30) (v := 1) hB dX5_dropTop_30 rfl ?_
      refine V.iadd (pc := 31) hB dX5_dropTop_31 ?_
      refine V.ialdM (pc := 32) hB (ca_LThick (by omega) (by omega)) dX5_dropTop_32 (by rw [nI1]; exact ix_nI (by omega) (by decide)) ?_
      refine V.iastM (pc := 33) hB (ca_LThick (by omega) (by omega)) dX5_dropTop_33 (ix_nI (by omega) (by decide)) (ne_LK (by omega) (by omega) (by omega)) ?_
      rw [set3_1, shift_at]
      refine V.mem (m2 := (set3 (up m (LK i j) 3 (nI (N - 1))) (LK i j) (shiftRow (m.1 (LK i j + 1)) (q + 1)) (shiftRow (m.1 (LK i j + 2)) (q)) (shiftRow (m.1 (LK i j + 3)) (q)))) (set3_up1 _ _ _ _ _ _ _ _ (shift_succ _ _)) ?_
      refine V.aload_n (pc := 34) hB dX5_dropTop_34 rfl ?_
      refine V.get (pc := 35) hB fk_Lake 1 wf_X5_15 dX5_dropTop_35 (by decide) (hp_at (ca_Lake (by omega) (by omega) _)) rfl ?_
      refine V.iload_n (pc := 38) hB dX5_dropTop_38 rfl ?_
      refine V.aload_n (pc := 39) hB dX5_dropTop_39 rfl ?_
      refine V.get (pc := 40) hB fk_Lake 1 wf_X5_15 dX5_dropTop_40 (by decide) (hp_at (ca_Lake (by omega) (by omega) _)) rfl ?_
      refine V.iload_n (pc := 43) hB dX5_dropTop_43 rfl ?_
      refine V.iconst (pc := 44) (v := 1) hB dX5_dropTop_44 rfl ?_
      refine V.iadd (pc := 45) hB dX5_dropTop_45 ?_
      refine V.ialdM (pc := 46) hB (ca_LTemp (by omega) (by omega)) dX5_dropTop_46 (by rw [nI1]; exact ix_nI (by omega) (by decide)) ?_
      refine V.iastM (pc := 47) hB (ca_LTemp (by omega) (by omega)) dX5_dropTop_47 (ix_nI (by omega) (by decide)) (ne_LK (by omega) (by omega) (by omega)) ?_
      rw [set3_2, shift_at]
      refine V.mem (m2 := (set3 (up m (LK i j) 3 (nI (N - 1))) (LK i j) (shiftRow (m.1 (LK i j + 1)) (q + 1)) (shiftRow (m.1 (LK i j + 2)) (q + 1)) (shiftRow (m.1 (LK i j + 3)) (q)))) (set3_up2 _ _ _ _ _ _ _ _ (shift_succ _ _)) ?_
      refine V.aload_n (pc := 48) hB dX5_dropTop_48 rfl ?_
      refine V.get (pc := 49) hB fk_Lake 2 wf_X5_18 dX5_dropTop_49 (by decide) (hp_at (ca_Lake (by omega) (by omega) _)) rfl ?_
      refine V.iload_n (pc := 52) hB dX5_dropTop_52 rfl ?_
      refine V.aload_n (pc := 53) hB dX5_dropTop_53 rfl ?_
      refine V.get (pc := 54) hB fk_Lake 2 wf_X5_18 dX5_dropTop_54 (by decide) (hp_at (ca_Lake (by omega) (by omega) _)) rfl ?_
      refine V.iload_n (pc := 57) hB dX5_dropTop_57 rfl ?_
      refine V.iconst (pc := 58) (v := 1) hB dX5_dropTop_58 rfl ?_
      refine V.iadd (pc := 59) hB dX5_dropTop_59 ?_
      refine V.ialdM (pc := 60) hB (ca_LStrain (by omega) (by omega)) dX5_dropTop_60 (by rw [nI1]; exact ix_nI (by omega) (by decide)) ?_
      refine V.iastM (pc := 61) hB (ca_LStrain (by omega) (by omega)) dX5_dropTop_61 (ix_nI (by omega) (by decide)) (ne_LK (by omega) (by omega) (by omega)) ?_
      rw [set3_3, shift_at]
      refine V.mem (m2 := (set3 (up m (LK i j) 3 (nI (N - 1))) (LK i j) (shiftRow (m.1 (LK i j + 1)) (q + 1)) (shiftRow (m.1 (LK i j + 2)) (q + 1)) (shiftRow (m.1 (LK i j + 3)) (q + 1)))) (set3_up3 _ _ _ _ _ _ _ _ (shift_succ _ _)) ?_
      refine V.iinc (pc := 62) (v := nI (q + 1)) hB dX5_dropTop_62 rfl (nI_1 _) (by decide) rfl ?_
      refine V.goto (pc := 65) (tgt := 12) hB dX5_dropTop_65 (by decide) ?_
      exact ih hlt sz
  refine V.aload_n (pc := 0) hB dX5_dropTop_0 rfl ?_
  refine V.dup (pc := 1) hB dX5_dropTop_1 rfl ?_
  refine V.get (pc := 2) hB fk_Lake 3 wf_X5_21 dX5_dropTop_2 (by decide) (hp_at (ca_Lake (by omega) (by omega) _)) rfl ?_
  refine V.iconst (pc := 5) (v := 1) hB dX5_dropTop_5 rfl ?_
  refine V.isub (pc := 6) hB dX5_dropTop_6 ?_
  refine V.p_Lake_layerCount (pc := 7) hB wf_X5_21 dX5_dropTop_7 (by omega) (by omega) ?_
  refine V.iconst (pc := 10) (v := 0) hB dX5_dropTop_10 rfl ?_
  refine V.istore_n (pc := 11) hB dX5_dropTop_11 (by decide) rfl ?_
  have h0 := loop 0 (by omega) sz
  rw [shift_zero, shift_zero, shift_zero] at h0
  refine V.mem (m2 := set3 (up m (LK i j) 3 (nI (N - 1))) (LK i j) (m.1 (LK i j + 1)) (m.1 (LK i j + 2)) (m.1 (LK i j + 3))) (set3_ext ?_ ?_ ?_ (fun _ _ => ?_) rfl) h0
  · rw [up_cell _ _ _ (by omega)]
  · rw [up_cell _ _ _ (by omega)]
  · rw [up_cell _ _ _ (by omega)]
  · rw [hN.1, show nI N - 1 = nI (N - 1) by obtain ⟨z, rfl⟩ : ∃ z, N = z + 1 := ⟨N - 1, by omega⟩; exact nI_pred z]
