def nLk (m : Mem) (i : Nat) : Nat := (m.1 (LA i) 1).toNatClampNeg
def nLy (m : Mem) (i j : Nat) : Nat := (m.1 (LK i j) 3).toNatClampNeg
def nWn (m : Mem) (i : Nat) : Nat := (m.1 (LA i + 2) 2).toNatClampNeg
/-- a landscape is well formed -/
def LW (m : Mem) (i : Nat) : Prop := (m.1 (LA i) 1 = nI (nLk m i) ∧ nLk m i ≤ 5) ∧ (∀ j, j < nLk m i → LN m i j (nLy m i j)) ∧ WR m i (nWn m i) ∧ PR m i (wOf m i) (cOf m i) ∧ ∀ y, y < 16 → fits .char (.int (m.1 (LA i + 6) y)) = true
theorem idx_of {x : Int32} {n : Nat} (h : 0 ≤ x ∧ x < nI n) (hn : n ≤ 1000000) : x = nI x.toNatClampNeg ∧ x.toNatClampNeg < n := by
  obtain ⟨j, hj, rfl⟩ := nI_of (Int32.not_lt.mpr h.1)
  rw [nI_clamp hj]
  exact ⟨rfl, (nI_ltI hj (by omega)).mp h.2⟩
theorem LW.nl {m : Mem} {i : Nat} (h : LW m i) : m.1 (LA i) 1 = nI (nLk m i) := h.1.1
theorem LW.nl5 {m : Mem} {i : Nat} (h : LW m i) : nLk m i ≤ 5 := h.1.2
theorem LW.ln {m : Mem} {i j : Nat} (h : LW m i) (hj : j < nLk m i) : LN m i j (nLy m i j) := h.2.1 j hj
theorem LW.wr {m : Mem} {i : Nat} (h : LW m i) : WR m i (nWn m i) := h.2.2.1
theorem LW.pr {m : Mem} {i : Nat} (h : LW m i) : PR m i (wOf m i) (cOf m i) := h.2.2.2.1
theorem LW.kf {m : Mem} {i : Nat} (h : LW m i) : ∀ y, y < 16 → fits .char (.int (m.1 (LA i + 6) y)) = true := h.2.2.2.2
def inLk (m : Mem) (i : Nat) (x : Int32) : Prop := 0 ≤ x ∧ x < nI (nLk m i)
def inLy (m : Mem) (i : Nat) (x y : Int32) : Prop := 0 ≤ y ∧ y < nI (nLy m i x.toNatClampNeg)
def iceV (m : Mem) (i j : Nat) : Int32 := l_sum (m.1 (LK i j + 1)) (nLy m i j)
def placeF (m : Mem) (i : Nat) (d : Int32) : Int32 := if d < 20 ∨ 400 < d then 97 else if m.1 (LA i) 1 < 5 then 45 else 115
def growF (m : Mem) (i : Nat) (x t te : Int32) : Int32 := if ¬ (0 ≤ x ∧ x < nI (nLk m i)) then 98 else if t < 1 ∨ 50 < t ∨ te < -40 ∨ 0 < te then 97 else if 8 ≤ m.1 (LK i x.toNatClampNeg) 3 then 115 else if m.1 (LK i x.toNatClampNeg) 4 < 2 * (iceV m i x.toNatClampNeg + t) then 117 else 45
def airF (t : Int32) : Int32 := if t < -40 ∨ 20 < t then 97 else 45
def passF (t : Int32) : Int32 := if t < 1 ∨ 48 < t then 97 else 45
def winF (m : Mem) (i : Nat) (a b : Int32) : Int32 := if b < a ∨ 9999 < a then 97 else if 6 ≤ m.1 (LA i + 2) 2 ∨ a ≤ m.1 (LA i) 3 then 115 else if meetB (m.1 (LA i + 3)) (m.1 (LA i + 4)) a b (nWn m i) = true then 117 else 45
def openF (m : Mem) (i : Nat) (x : Int32) : Int32 := if 0 ≤ x ∧ x < nI (nWn m i) then 45 else 98
def ringF (m : Mem) (i : Nat) (x y : Int32) : Int32 := if (0 ≤ x ∧ x < nI (nLk m i)) ∧ (0 ≤ y ∧ y < nI (nLy m i x.toNatClampNeg)) then (if m.1 (LK i x.toNatClampNeg + 2) y.toNatClampNeg = 0 then 117 else 45) else 98
def placeM (i : Nat) (d : Int32) (m : Mem) : Mem := up (up (up (up m (LK i (nLk m i)) 4 d) (LK i (nLk m i)) 3 0) (LK i (nLk m i)) 5 0) (LA i) 1 (nI (nLk m i + 1))
def growM (i j : Nat) (t te : Int32) (m : Mem) : Mem := up (up (up (up (up m (LA i) 4 (m.1 (LA i) 4 + t)) (LK i j + 1) (nLy m i j) t) (LK i j + 2) (nLy m i j) te) (LK i j + 3) (nLy m i j) 0) (LK i j) 3 (nI (nLy m i j + 1))
def ringM (i j y : Nat) (m : Mem) : Mem := recM i (wOf m i) (cOf m i) 115 (nI j) (pitchV (m.1 (LK i j + 1)) (m.1 (LK i j + 2)) y) (m.1 (LA i) 3) m

set_option maxRecDepth 100000 in
set_option maxHeartbeats 4000000 in
theorem c_X6_hasLake {g : xG} (hG : GK g) {i : Nat} (hi : i < 11) {m : Mem} (hL : LW m i) {x : Int32} : CC g yX6_hasLake (.code yX6_hasLake cX6_hasLake 2 (some .boolean)) 1 0 0 [.ref (ad g (LA i)), .int x] m (rI (fun v m2 => v = (if 0 ≤ x ∧ x < nI (nLk m i) then 1 else 0) ∧ m2 = m)) noX := by
  refine CC.mk hG RX6 rfl (by decide +kernel) rfl (Nat.le_of_ble_eq_true rfl) (fun sz B hB hX => ?_)
  show V g B 0 0 _ (hp g m) sz 0 [some (.ref (ad g (LA i))), some (.int x)] []
  refine V.iload_n (pc := 0) hB dX6_hasLake_0 rfl ?_
  refine V.if_lt (pc := 1) (tgt := 16) hB dX6_hasLake_1 (by decide) (fun c_1 => ?_) (fun c_1 => ?_)
  · refine V.iconst (pc := 16) (v := 0) hB dX6_hasLake_16 rfl ?_
    refine V.retI (pc := 17) hB dX6_hasLake_17 rfl (rfl) (by omega) (by omega) ?_
    first
    | exact ⟨(if_neg (fun z => absurd c_1 (Int32.not_lt.mpr z.1))).symm, rfl⟩
    | exact ⟨(if_neg (fun z => by rw [hL.nl] at c_9; exact absurd z.2 (Int32.not_lt.mpr c_9))).symm, rfl⟩
    | exact ⟨(if_pos ⟨Int32.not_lt.mp c_1, by rw [hL.nl] at c_9; exact Int32.not_le.mp c_9⟩).symm, rfl⟩
  · refine V.iload_n (pc := 4) hB dX6_hasLake_4 rfl ?_
    refine V.aload_n (pc := 5) hB dX6_hasLake_5 rfl ?_
    refine V.get (pc := 6) hB fk_Land 1 wf_X6_17 dX6_hasLake_6 (by decide) (hp_at (ca_Land (by omega) _)) rfl ?_
    refine V.icmp_ge (pc := 9) (tgt := 16) hB dX6_hasLake_9 (by decide) (fun c_9 => ?_) (fun c_9 => ?_)
    · refine V.iconst (pc := 16) (v := 0) hB dX6_hasLake_16 rfl ?_
      refine V.retI (pc := 17) hB dX6_hasLake_17 rfl (rfl) (by omega) (by omega) ?_
      first
      | exact ⟨(if_neg (fun z => absurd c_1 (Int32.not_lt.mpr z.1))).symm, rfl⟩
      | exact ⟨(if_neg (fun z => by rw [hL.nl] at c_9; exact absurd z.2 (Int32.not_lt.mpr c_9))).symm, rfl⟩
      | exact ⟨(if_pos ⟨Int32.not_lt.mp c_1, by rw [hL.nl] at c_9; exact Int32.not_le.mp c_9⟩).symm, rfl⟩
    · refine V.iconst (pc := 12) (v := 1) hB dX6_hasLake_12 rfl ?_
      refine V.goto (pc := 13) (tgt := 17) hB dX6_hasLake_13 (by decide) ?_
      refine V.retI (pc := 17) hB dX6_hasLake_17 rfl (rfl) (by omega) (by omega) ?_
      first
      | exact ⟨(if_neg (fun z => absurd c_1 (Int32.not_lt.mpr z.1))).symm, rfl⟩
      | exact ⟨(if_neg (fun z => by rw [hL.nl] at c_9; exact absurd z.2 (Int32.not_lt.mpr c_9))).symm, rfl⟩
      | exact ⟨(if_pos ⟨Int32.not_lt.mp c_1, by rw [hL.nl] at c_9; exact Int32.not_le.mp c_9⟩).symm, rfl⟩

set_option maxRecDepth 100000 in
set_option maxHeartbeats 4000000 in
theorem c_X6_placeFault {g : xG} (hG : GK g) {i : Nat} (hi : i < 11) {m : Mem} {x : Int32} : CC g yX6_placeFault (.code yX6_placeFault cX6_placeFault 2 (some .char)) 1 0 0 [.ref (ad g (LA i)), .int x] m (rI (fun v m2 => v = placeF m i x ∧ m2 = m)) noX := by
  refine CC.mk hG RX6 rfl (by decide +kernel) rfl (Nat.le_of_ble_eq_true rfl) (fun sz B hB hX => ?_)
  show V g B 0 0 _ (hp g m) sz 0 [some (.ref (ad g (LA i))), some (.int x)] []
  refine V.iload_n (pc := 0) hB dX6_placeFault_0 rfl ?_
  refine V.bipush (pc := 1) (v := 20) hB dX6_placeFault_1 rfl ?_
  refine V.icmp_lt (pc := 3) (tgt := 13) hB dX6_placeFault_3 (by decide) (fun c_3 => ?_) (fun c_3 => ?_)
  · refine V.bipush (pc := 13) (v := 97) hB dX6_placeFault_13 rfl ?_
    refine V.retI (pc := 15) hB dX6_placeFault_15 rfl (rfl) (by omega) (by omega) ?_
    first
    | exact ⟨(if_pos (Or.inl c_3)).symm, rfl⟩
    | exact ⟨(if_pos (Or.inr (Int32.not_le.mp c_10))).symm, rfl⟩
    | exact ⟨((if_neg (fun z => z.elim c_3 (fun z => absurd c_10 (Int32.not_le.mpr z)))).trans (if_neg (Int32.not_lt.mpr c_21))).symm, rfl⟩
    | exact ⟨((if_neg (fun z => z.elim c_3 (fun z => absurd c_10 (Int32.not_le.mpr z)))).trans (if_pos (Int32.not_le.mp c_21))).symm, rfl⟩
  · refine V.iload_n (pc := 6) hB dX6_placeFault_6 rfl ?_
    refine V.sipush (pc := 7) (v := 400) hB dX6_placeFault_7 rfl ?_
    refine V.icmp_le (pc := 10) (tgt := 16) hB dX6_placeFault_10 (by decide) (fun c_10 => ?_) (fun c_10 => ?_)
    · refine V.aload_n (pc := 16) hB dX6_placeFault_16 rfl ?_
      refine V.get (pc := 17) hB fk_Land 1 wf_X6_17 dX6_placeFault_17 (by decide) (hp_at (ca_Land (by omega) _)) rfl ?_
      refine V.iconst (pc := 20) (v := 5) hB dX6_placeFault_20 rfl ?_
      refine V.icmp_ge (pc := 21) (tgt := 29) hB dX6_placeFault_21 (by decide) (fun c_21 => ?_) (fun c_21 => ?_)
      · refine V.bipush (pc := 29) (v := 115) hB dX6_placeFault_29 rfl ?_
        refine V.retI (pc := 31) hB dX6_placeFault_31 rfl (rfl) (by omega) (by omega) ?_
        first
        | exact ⟨(if_pos (Or.inl c_3)).symm, rfl⟩
        | exact ⟨(if_pos (Or.inr (Int32.not_le.mp c_10))).symm, rfl⟩
        | exact ⟨((if_neg (fun z => z.elim c_3 (fun z => absurd c_10 (Int32.not_le.mpr z)))).trans (if_neg (Int32.not_lt.mpr c_21))).symm, rfl⟩
        | exact ⟨((if_neg (fun z => z.elim c_3 (fun z => absurd c_10 (Int32.not_le.mpr z)))).trans (if_pos (Int32.not_le.mp c_21))).symm, rfl⟩
      · refine V.bipush (pc := 24) (v := 45) hB dX6_placeFault_24 rfl ?_
        refine V.goto (pc := 26) (tgt := 31) hB dX6_placeFault_26 (by decide) ?_
        refine V.retI (pc := 31) hB dX6_placeFault_31 rfl (rfl) (by omega) (by omega) ?_
        first
        | exact ⟨(if_pos (Or.inl c_3)).symm, rfl⟩
        | exact ⟨(if_pos (Or.inr (Int32.not_le.mp c_10))).symm, rfl⟩
        | exact ⟨((if_neg (fun z => z.elim c_3 (fun z => absurd c_10 (Int32.not_le.mpr z)))).trans (if_neg (Int32.not_lt.mpr c_21))).symm, rfl⟩
        | exact ⟨((if_neg (fun z => z.elim c_3 (fun z => absurd c_10 (Int32.not_le.mpr z)))).trans (if_pos (Int32.not_le.mp c_21))).symm, rfl⟩
    · refine V.bipush (pc := 13) (v := 97) hB dX6_placeFault_13 rfl ?_
      refine V.retI (pc := 15) hB dX6_placeFault_15 rfl (rfl) (by omega) (by omega) ?_
      first
      | exact ⟨(if_pos (Or.inl c_3)).symm, rfl⟩
      | exact ⟨(if_pos (Or.inr (Int32.not_le.mp c_10))).symm, rfl⟩
      | exact ⟨((if_neg (fun z => z.elim c_3 (fun z => absurd c_10 (Int32.not_le.mpr z)))).trans (if_neg (Int32.not_lt.mpr c_21))).symm, rfl⟩
      | exact ⟨((if_neg (fun z => z.elim c_3 (fun z => absurd c_10 (Int32.not_le.mpr z)))).trans (if_pos (Int32.not_le.mp c_21))).symm, rfl⟩

set_option maxRecDepth 100000 in
set_option maxHeartbeats 4000000 in
theorem c_X6_airFault {g : xG} (hG : GK g) {i : Nat} (hi : i < 11) {m : Mem} {x : Int32} : CC g yX6_airFault (.code yX6_airFault cX6_airFault 2 (some .char)) 1 0 0 [.ref (ad g (LA i)), .int x] m (rI (fun v m2 => v = airF x ∧ m2 = m)) noX := by
  refine CC.mk hG RX6 rfl (by decide +kernel) rfl (Nat.le_of_ble_eq_true rfl) (fun sz B hB hX => ?_)
  show V g B 0 0 _ (hp g m) sz 0 [some (.ref (ad g (LA i))), some (.int x)] []
  refine V.iload_n (pc := 0) hB dX6_airFault_0 rfl ?_
  refine V.bipush (pc := 1) (v := (-40)) hB dX6_airFault_1 rfl ?_
  refine V.icmp_lt (pc := 3) (tgt := 12) hB dX6_airFault_3 (by decide) (fun c_3 => ?_) (fun c_3 => ?_)
  · refine V.bipush (pc := 12) (v := 97) hB dX6_airFault_12 rfl ?_
    refine V.goto (pc := 14) (tgt := 19) hB dX6_airFault_14 (by decide) ?_
    refine V.retI (pc := 19) hB dX6_airFault_19 rfl (rfl) (by omega) (by omega) ?_
    first
    | exact ⟨(if_pos (Or.inl c_3)).symm, rfl⟩
    | exact ⟨(if_pos (Or.inr (Int32.not_le.mp c_9))).symm, rfl⟩
    | exact ⟨(if_neg (fun z => z.elim c_3 (fun z => absurd c_9 (Int32.not_le.mpr z)))).symm, rfl⟩
  · refine V.iload_n (pc := 6) hB dX6_airFault_6 rfl ?_
    refine V.bipush (pc := 7) (v := 20) hB dX6_airFault_7 rfl ?_
    refine V.icmp_le (pc := 9) (tgt := 17) hB dX6_airFault_9 (by decide) (fun c_9 => ?_) (fun c_9 => ?_)
    · refine V.bipush (pc := 17) (v := 45) hB dX6_airFault_17 rfl ?_
      refine V.retI (pc := 19) hB dX6_airFault_19 rfl (rfl) (by omega) (by omega) ?_
      first
      | exact ⟨(if_pos (Or.inl c_3)).symm, rfl⟩
      | exact ⟨(if_pos (Or.inr (Int32.not_le.mp c_9))).symm, rfl⟩
      | exact ⟨(if_neg (fun z => z.elim c_3 (fun z => absurd c_9 (Int32.not_le.mpr z)))).symm, rfl⟩
    · refine V.bipush (pc := 12) (v := 97) hB dX6_airFault_12 rfl ?_
      refine V.goto (pc := 14) (tgt := 19) hB dX6_airFault_14 (by decide) ?_
      refine V.retI (pc := 19) hB dX6_airFault_19 rfl (rfl) (by omega) (by omega) ?_
      first
      | exact ⟨(if_pos (Or.inl c_3)).symm, rfl⟩
      | exact ⟨(if_pos (Or.inr (Int32.not_le.mp c_9))).symm, rfl⟩
      | exact ⟨(if_neg (fun z => z.elim c_3 (fun z => absurd c_9 (Int32.not_le.mpr z)))).symm, rfl⟩

set_option maxRecDepth 100000 in
set_option maxHeartbeats 4000000 in
theorem c_X6_passFault {g : xG} (hG : GK g) {i : Nat} (hi : i < 11) {m : Mem} {x : Int32} : CC g yX6_passFault (.code yX6_passFault cX6_passFault 2 (some .char)) 1 0 0 [.ref (ad g (LA i)), .int x] m (rI (fun v m2 => v = passF x ∧ m2 = m)) noX := by
  refine CC.mk hG RX6 rfl (by decide +kernel) rfl (Nat.le_of_ble_eq_true rfl) (fun sz B hB hX => ?_)
  show V g B 0 0 _ (hp g m) sz 0 [some (.ref (ad g (LA i))), some (.int x)] []
  refine V.iload_n (pc := 0) hB dX6_passFault_0 rfl ?_
  refine V.iconst (pc := 1) (v := 1) hB dX6_passFault_1 rfl ?_
  refine V.icmp_lt (pc := 2) (tgt := 11) hB dX6_passFault_2 (by decide) (fun c_2 => ?_) (fun c_2 => ?_)
  · refine V.bipush (pc := 11) (v := 97) hB dX6_passFault_11 rfl ?_
    refine V.goto (pc := 13) (tgt := 18) hB dX6_passFault_13 (by decide) ?_
    refine V.retI (pc := 18) hB dX6_passFault_18 rfl (rfl) (by omega) (by omega) ?_
    first
    | exact ⟨(if_pos (Or.inl c_2)).symm, rfl⟩
    | exact ⟨(if_pos (Or.inr (Int32.not_le.mp c_8))).symm, rfl⟩
    | exact ⟨(if_neg (fun z => z.elim c_2 (fun z => absurd c_8 (Int32.not_le.mpr z)))).symm, rfl⟩
  · refine V.iload_n (pc := 5) hB dX6_passFault_5 rfl ?_
    refine V.bipush (pc := 6) (v := 48) hB dX6_passFault_6 rfl ?_
    refine V.icmp_le (pc := 8) (tgt := 16) hB dX6_passFault_8 (by decide) (fun c_8 => ?_) (fun c_8 => ?_)
    · refine V.bipush (pc := 16) (v := 45) hB dX6_passFault_16 rfl ?_
      refine V.retI (pc := 18) hB dX6_passFault_18 rfl (rfl) (by omega) (by omega) ?_
      first
      | exact ⟨(if_pos (Or.inl c_2)).symm, rfl⟩
      | exact ⟨(if_pos (Or.inr (Int32.not_le.mp c_8))).symm, rfl⟩
      | exact ⟨(if_neg (fun z => z.elim c_2 (fun z => absurd c_8 (Int32.not_le.mpr z)))).symm, rfl⟩
    · refine V.bipush (pc := 11) (v := 97) hB dX6_passFault_11 rfl ?_
      refine V.goto (pc := 13) (tgt := 18) hB dX6_passFault_13 (by decide) ?_
      refine V.retI (pc := 18) hB dX6_passFault_18 rfl (rfl) (by omega) (by omega) ?_
      first
      | exact ⟨(if_pos (Or.inl c_2)).symm, rfl⟩
      | exact ⟨(if_pos (Or.inr (Int32.not_le.mp c_8))).symm, rfl⟩
      | exact ⟨(if_neg (fun z => z.elim c_2 (fun z => absurd c_8 (Int32.not_le.mpr z)))).symm, rfl⟩

set_option maxRecDepth 100000 in
set_option maxHeartbeats 4000000 in
theorem c_X6_changeAir {g : xG} (hG : GK g) {i : Nat} (hi : i < 11) {m : Mem} {x : Int32} : CC g yX6_changeAir (.code yX6_changeAir cX6_changeAir 3 (some .int)) 1 0 0 [.ref (ad g (LA i)), .int x] m (rI (fun v m2 => v = m.1 (LA i) 2 ∧ m2 = up m (LA i) 2 x)) noX := by
  refine CC.mk hG RX6 rfl (by decide +kernel) rfl (Nat.le_of_ble_eq_true rfl) (fun sz B hB hX => ?_)
  show V g B 0 0 _ (hp g m) sz 0 [some (.ref (ad g (LA i))), some (.int x), none] []
  refine V.aload_n (pc := 0) hB dX6_changeAir_0 rfl ?_
  refine V.get (pc := 1) hB fk_Land 2 wf_X6_21 dX6_changeAir_1 (by decide) (hp_at (ca_Land (by omega) _)) rfl ?_
  refine V.istore_n (pc := 4) hB dX6_changeAir_4 (by decide) rfl ?_
  refine V.aload_n (pc := 5) hB dX6_changeAir_5 rfl ?_
  refine V.iload_n (pc := 6) hB dX6_changeAir_6 rfl ?_
  refine V.p_Land_air (pc := 7) hB wf_X6_21 dX6_changeAir_7 (by omega) ?_
  refine V.iload_n (pc := 10) hB dX6_changeAir_10 rfl ?_
  refine V.retI (pc := 11) hB dX6_changeAir_11 rfl (rfl) (by omega) (by omega) ?_
  exact ⟨rfl, rfl⟩

set_option maxRecDepth 100000 in
set_option maxHeartbeats 4000000 in
theorem c_X6_placeLake {g : xG} (hG : GK g) {i : Nat} (hi : i < 11) {m : Mem} (hL : LW m i) (h5 : nLk m i < 5) {x : Int32} : CC g yX6_placeLake (.code yX6_placeLake cX6_placeLake 3 (some .int)) 2 0 0 [.ref (ad g (LA i)), .int x] m (rI (fun v m2 => v = nI (nLk m i) ∧ m2 = placeM i x m)) noX := by
  refine CC.mk hG RX6 rfl (by decide +kernel) rfl (Nat.le_of_ble_eq_true rfl) (fun sz B hB hX => ?_)
  show V g B 0 0 _ (hp g m) sz 0 [some (.ref (ad g (LA i))), some (.int x), none] []
  refine V.aload_n (pc := 0) hB dX6_placeLake_0 rfl ?_
  refine V.get (pc := 1) hB fk_Land 1 wf_X6_17 dX6_placeLake_1 (by decide) (hp_at (ca_Land (by omega) _)) rfl ?_
  rw [hL.nl]
  refine V.istore_n (pc := 4) hB dX6_placeLake_4 (by decide) rfl ?_
  refine V.aload_n (pc := 5) hB dX6_placeLake_5 rfl ?_
  refine V.get (pc := 6) hB fk_Land 0 wf_X6_11 dX6_placeLake_6 (by decide) (hp_at (ca_Land (by omega) _)) rfl ?_
  refine V.iload_n (pc := 9) hB dX6_placeLake_9 rfl ?_
  refine V.aaldLk (pc := 10) hB (by omega) dX6_placeLake_10 (ix_nI (by omega) (by decide)) ?_
  refine V.iload_n (pc := 11) hB dX6_placeLake_11 rfl ?_
  refine V.cv (pc := 12) hB cw_X5_begin wm_X6_58 wi_X5_begin ws_X5_begin dX6_placeLake_12 (c_X5_begin hG hi h5) (hp_at (ca_Lake (by omega) (by omega) _)) fk_Lake rfl (by omega) (by decide) rfl (by exact Nat.le_of_ble_eq_true rfl) (by omega) (by omega) kN (kV (fun m_12 sz h_12 => ?_)) rfl
  subst h_12
  refine V.aload_n (pc := 15) hB dX6_placeLake_15 rfl ?_
  refine V.dup (pc := 16) hB dX6_placeLake_16 rfl ?_
  refine V.get (pc := 17) hB fk_Land 1 wf_X6_17 dX6_placeLake_17 (by decide) (hp_at (ca_Land (by omega) _)) rfl ?_
  rw [up_cell _ _ _ (by have := LK_ge i (nLk m i); omega), up_cell _ _ _ (by have := LK_ge i (nLk m i); omega), up_cell _ _ _ (by have := LK_ge i (nLk m i); omega), hL.nl]
  refine V.iconst (pc := 20) (v := 1) hB dX6_placeLake_20 rfl ?_
  refine V.iadd (pc := 21) hB dX6_placeLake_21 ?_
  rw [nI1]
  refine V.p_Land_lakeCount (pc := 22) hB wf_X6_17 dX6_placeLake_22 (by omega) ?_
  refine V.iload_n (pc := 25) hB dX6_placeLake_25 rfl ?_
  refine V.retI (pc := 26) hB dX6_placeLake_26 rfl (rfl) (by omega) (by omega) ?_
  exact ⟨rfl, rfl⟩

set_option maxRecDepth 100000 in
set_option maxHeartbeats 4000000 in
theorem c_X6_growFault {g : xG} (hG : GK g) {i : Nat} (hi : i < 11) {m : Mem} (hL : LW m i) {x t te : Int32} : CC g yX6_growFault (.code yX6_growFault cX6_growFault 5 (some .char)) 3 0 0 [.ref (ad g (LA i)), .int x, .int t, .int te] m (rI (fun v m2 => v = growF m i x t te ∧ m2 = m)) noX := by
  refine CC.mk hG RX6 rfl (by decide +kernel) rfl (Nat.le_of_ble_eq_true rfl) (fun sz B hB hX => ?_)
  show V g B 0 0 _ (hp g m) sz 0 [some (.ref (ad g (LA i))), some (.int x), some (.int t), some (.int te), none] []
  refine V.aload_n (pc := 0) hB dX6_growFault_0 rfl ?_
  refine V.iload_n (pc := 1) hB dX6_growFault_1 rfl ?_
  refine V.cv (pc := 2) hB cw_X6_hasLake wm_X6_62 wi_X6_hasLake ws_X6_hasLake dX6_growFault_2 (c_X6_hasLake hG hi hL) (hp_at (ca_Land (by omega) _)) fk_Land rfl (by omega) (by decide) rfl (by exact Nat.le_of_ble_eq_true rfl) (by omega) (by omega) kN (kI (fun v_2 m_2 sz h_2 => ?_)) rfl
  obtain ⟨rfl, rfl⟩ := h_2
  refine V.if_ne (pc := 5) (tgt := 11) hB dX6_growFault_5 (by decide) (fun c_5 => ?_) (fun c_5 => ?_)
  · have hc : 0 ≤ x ∧ x < nI (nLk m_2 i) := Decidable.byContradiction (fun z => c_5 (if_neg z))
    obtain ⟨hxe, hxl⟩ := idx_of hc (by have := hL.nl5; omega)
    have hj : x.toNatClampNeg < 5 := by have := hL.nl5; omega
    have hln := hL.ln hxl
    refine V.iload_n (pc := 11) hB dX6_growFault_11 rfl ?_
    refine V.iconst (pc := 12) (v := 1) hB dX6_growFault_12 rfl ?_
    refine V.icmp_lt (pc := 13) (tgt := 32) hB dX6_growFault_13 (by decide) (fun c_13 => ?_) (fun c_13 => ?_)
    · refine V.bipush (pc := 32) (v := 97) hB dX6_growFault_32 rfl ?_
      refine V.retI (pc := 34) hB dX6_growFault_34 rfl (rfl) (by omega) (by omega) ?_
      refine ⟨((if_neg (fun z => z hc)).trans (if_pos ?_)).symm, rfl⟩
      first
      | exact Or.inl c_13
      | exact Or.inr (Or.inl (by assumption))
      | exact Or.inr (Or.inr (Or.inl c_25))
      | exact Or.inr (Or.inr (Or.inr (Int32.not_le.mp c_29)))
    · refine V.iload_n (pc := 16) hB dX6_growFault_16 rfl ?_
      refine V.bipush (pc := 17) (v := 50) hB dX6_growFault_17 rfl ?_
      refine V.icmp_gt (pc := 19) (tgt := 32) hB dX6_growFault_19 (by decide) (fun c_19 => ?_) (fun c_19 => ?_)
      · refine V.bipush (pc := 32) (v := 97) hB dX6_growFault_32 rfl ?_
        refine V.retI (pc := 34) hB dX6_growFault_34 rfl (rfl) (by omega) (by omega) ?_
        refine ⟨((if_neg (fun z => z hc)).trans (if_pos ?_)).symm, rfl⟩
        first
        | exact Or.inl c_13
        | exact Or.inr (Or.inl (by assumption))
        | exact Or.inr (Or.inr (Or.inl c_25))
        | exact Or.inr (Or.inr (Or.inr (Int32.not_le.mp c_29)))
      · refine V.iload_n (pc := 22) hB dX6_growFault_22 rfl ?_
        refine V.bipush (pc := 23) (v := (-40)) hB dX6_growFault_23 rfl ?_
        refine V.icmp_lt (pc := 25) (tgt := 32) hB dX6_growFault_25 (by decide) (fun c_25 => ?_) (fun c_25 => ?_)
        · refine V.bipush (pc := 32) (v := 97) hB dX6_growFault_32 rfl ?_
          refine V.retI (pc := 34) hB dX6_growFault_34 rfl (rfl) (by omega) (by omega) ?_
          refine ⟨((if_neg (fun z => z hc)).trans (if_pos ?_)).symm, rfl⟩
          first
          | exact Or.inl c_13
          | exact Or.inr (Or.inl (by assumption))
          | exact Or.inr (Or.inr (Or.inl c_25))
          | exact Or.inr (Or.inr (Or.inr (Int32.not_le.mp c_29)))
        · refine V.iload_n (pc := 28) hB dX6_growFault_28 rfl ?_
          refine V.if_le (pc := 29) (tgt := 35) hB dX6_growFault_29 (by decide) (fun c_29 => ?_) (fun c_29 => ?_)
          · refine V.aload_n (pc := 35) hB dX6_growFault_35 rfl ?_
            refine V.get (pc := 36) hB fk_Land 0 wf_X6_11 dX6_growFault_36 (by decide) (hp_at (ca_Land (by omega) _)) rfl ?_
            refine V.iload_n (pc := 39) hB dX6_growFault_39 rfl ?_
            refine V.aaldLk (pc := 40) hB (by omega) dX6_growFault_40 (ix_of hc.1 hc.2 (by have := hL.nl5; omega) (hL.nl5)) ?_
            refine V.get (pc := 41) hB fk_Lake 3 wf_X6_66 dX6_growFault_41 (by decide) (hp_at (ca_Lake (by omega) (by omega) _)) rfl ?_
            refine V.bipush (pc := 44) (v := 8) hB dX6_growFault_44 rfl ?_
            refine V.icmp_lt (pc := 46) (tgt := 52) hB dX6_growFault_46 (by decide) (fun c_46 => ?_) (fun c_46 => ?_)
            · have hna : ¬ (t < 1 ∨ 50 < t ∨ te < -40 ∨ 0 < te) := fun z => z.elim c_13 (fun z => z.elim (fun z => absurd z c_19) (fun z => z.elim c_25 (fun z => absurd c_29 (Int32.not_le.mpr z))))
              refine V.aload_n (pc := 52) hB dX6_growFault_52 rfl ?_
              refine V.get (pc := 53) hB fk_Land 0 wf_X6_11 dX6_growFault_53 (by decide) (hp_at (ca_Land (by omega) _)) rfl ?_
              refine V.iload_n (pc := 56) hB dX6_growFault_56 rfl ?_
              refine V.aaldLk (pc := 57) hB (by omega) dX6_growFault_57 (ix_of hc.1 hc.2 (by have := hL.nl5; omega) (hL.nl5)) ?_
              refine V.cv (pc := 58) hB cw_X5_iceByLayers wm_X6_69 wi_X5_iceByLayers ws_X5_iceByLayers dX6_growFault_58 (c_X5_iceByLayers hG hi hj hln) (hp_at (ca_Lake (by omega) (by omega) _)) fk_Lake rfl (by omega) (by decide) rfl (by exact Nat.le_of_ble_eq_true rfl) (by omega) (by omega) kN (kI (fun v_58 m_58 sz h_58 => ?_)) rfl
              obtain ⟨rfl, rfl⟩ := h_58
              refine V.iload_n (pc := 61) hB dX6_growFault_61 rfl ?_
              refine V.iadd (pc := 62) hB dX6_growFault_62 ?_
              refine V.istore (pc := 63) hB dX6_growFault_63 (by decide) rfl ?_
              refine V.iconst (pc := 65) (v := 2) hB dX6_growFault_65 rfl ?_
              refine V.iload (pc := 66) hB dX6_growFault_66 rfl ?_
              refine V.imul (pc := 68) hB dX6_growFault_68 ?_
              refine V.aload_n (pc := 69) hB dX6_growFault_69 rfl ?_
              refine V.get (pc := 70) hB fk_Land 0 wf_X6_11 dX6_growFault_70 (by decide) (hp_at (ca_Land (by omega) _)) rfl ?_
              refine V.iload_n (pc := 73) hB dX6_growFault_73 rfl ?_
              refine V.aaldLk (pc := 74) hB (by omega) dX6_growFault_74 (ix_of hc.1 hc.2 (by have := hL.nl5; omega) (hL.nl5)) ?_
              refine V.get (pc := 75) hB fk_Lake 4 wf_X6_73 dX6_growFault_75 (by decide) (hp_at (ca_Lake (by omega) (by omega) _)) rfl ?_
              refine V.icmp_le (pc := 78) (tgt := 86) hB dX6_growFault_78 (by decide) (fun c_78 => ?_) (fun c_78 => ?_)
              · refine V.bipush (pc := 86) (v := 45) hB dX6_growFault_86 rfl ?_
                refine V.retI (pc := 88) hB dX6_growFault_88 rfl (rfl) (by omega) (by omega) ?_
                first
                | exact ⟨((if_neg (fun z => z hc)).trans ((if_neg hna).trans ((if_neg (Int32.not_le.mpr c_46)).trans (if_neg (Int32.not_lt.mpr c_78))))).symm, rfl⟩
                | exact ⟨((if_neg (fun z => z hc)).trans ((if_neg hna).trans ((if_neg (Int32.not_le.mpr c_46)).trans (if_pos (Int32.not_le.mp c_78))))).symm, rfl⟩
              · refine V.bipush (pc := 81) (v := 117) hB dX6_growFault_81 rfl ?_
                refine V.goto (pc := 83) (tgt := 88) hB dX6_growFault_83 (by decide) ?_
                refine V.retI (pc := 88) hB dX6_growFault_88 rfl (rfl) (by omega) (by omega) ?_
                first
                | exact ⟨((if_neg (fun z => z hc)).trans ((if_neg hna).trans ((if_neg (Int32.not_le.mpr c_46)).trans (if_neg (Int32.not_lt.mpr c_78))))).symm, rfl⟩
                | exact ⟨((if_neg (fun z => z hc)).trans ((if_neg hna).trans ((if_neg (Int32.not_le.mpr c_46)).trans (if_pos (Int32.not_le.mp c_78))))).symm, rfl⟩
            · have hna : ¬ (t < 1 ∨ 50 < t ∨ te < -40 ∨ 0 < te) := fun z => z.elim c_13 (fun z => z.elim (fun z => absurd z c_19) (fun z => z.elim c_25 (fun z => absurd c_29 (Int32.not_le.mpr z))))
              refine V.bipush (pc := 49) (v := 115) hB dX6_growFault_49 rfl ?_
              refine V.retI (pc := 51) hB dX6_growFault_51 rfl (rfl) (by omega) (by omega) ?_
              exact ⟨((if_neg (fun z => z hc)).trans ((if_neg hna).trans (if_pos (Int32.not_lt.mp c_46)))).symm, rfl⟩
          · refine V.bipush (pc := 32) (v := 97) hB dX6_growFault_32 rfl ?_
            refine V.retI (pc := 34) hB dX6_growFault_34 rfl (rfl) (by omega) (by omega) ?_
            refine ⟨((if_neg (fun z => z hc)).trans (if_pos ?_)).symm, rfl⟩
            first
            | exact Or.inl c_13
            | exact Or.inr (Or.inl (by assumption))
            | exact Or.inr (Or.inr (Or.inl c_25))
            | exact Or.inr (Or.inr (Or.inr (Int32.not_le.mp c_29)))
  · have hc : ¬ (0 ≤ x ∧ x < nI (nLk m_2 i)) := fun z => by rw [if_pos z] at c_5; exact absurd c_5 (by decide)
    refine V.bipush (pc := 8) (v := 98) hB dX6_growFault_8 rfl ?_
    refine V.retI (pc := 10) hB dX6_growFault_10 rfl (rfl) (by omega) (by omega) ?_
    exact ⟨(if_pos hc).symm, rfl⟩

set_option maxRecDepth 100000 in
set_option maxHeartbeats 4000000 in
theorem c_X6_growLayer {g : xG} (hG : GK g) {i : Nat} (hi : i < 11) {m : Mem} (hL : LW m i) {j : Nat} (hj : j < nLk m i) (h8 : nLy m i j < 8) {t te : Int32} : CC g yX6_growLayer (.code yX6_growLayer cX6_growLayer 4 (some .int)) 2 0 0 [.ref (ad g (LA i)), .int (nI j), .int t, .int te] m (rI (fun v m2 => v = nI (nLy m i j + 1) ∧ m2 = growM i j t te m)) noX := by
  have h5 := hL.nl5
  refine CC.mk hG RX6 rfl (by decide +kernel) rfl (Nat.le_of_ble_eq_true rfl) (fun sz B hB hX => ?_)
  show V g B 0 0 _ (hp g m) sz 0 [some (.ref (ad g (LA i))), some (.int (nI j)), some (.int t), some (.int te)] []
  refine V.aload_n (pc := 0) hB dX6_growLayer_0 rfl ?_
  refine V.dup (pc := 1) hB dX6_growLayer_1 rfl ?_
  refine V.get (pc := 2) hB fk_Land 4 wf_X6_27 dX6_growLayer_2 (by decide) (hp_at (ca_Land (by omega) _)) rfl ?_
  refine V.iload_n (pc := 5) hB dX6_growLayer_5 rfl ?_
  refine V.iadd (pc := 6) hB dX6_growLayer_6 ?_
  refine V.p_Land_frozen (pc := 7) hB wf_X6_27 dX6_growLayer_7 (by omega) ?_
  refine V.aload_n (pc := 10) hB dX6_growLayer_10 rfl ?_
  refine V.get (pc := 11) hB fk_Land 0 wf_X6_11 dX6_growLayer_11 (by decide) (hp_at (ca_Land (by omega) _)) rfl ?_
  refine V.iload_n (pc := 14) hB dX6_growLayer_14 rfl ?_
  refine V.aaldLk (pc := 15) hB (by omega) dX6_growLayer_15 (ix_nI (by omega) (by decide)) ?_
  refine V.iload_n (pc := 16) hB dX6_growLayer_16 rfl ?_
  refine V.iload_n (pc := 17) hB dX6_growLayer_17 rfl ?_
  refine V.cv (pc := 18) hB cw_X5_addLayer wm_X6_76 wi_X5_addLayer ws_X5_addLayer dX6_growLayer_18 (c_X5_addLayer hG hi (by omega) (N := nLy m i j) ⟨by rw [up_cell _ _ _ (by have := LK_ge i j; omega)]; exact (hL.ln hj).1, (hL.ln hj).2⟩ h8) (hp_at (ca_Lake (by omega) (by omega) _)) fk_Lake rfl (by omega) (by decide) rfl (by exact Nat.le_of_ble_eq_true rfl) (by omega) (by omega) kN (kI (fun v_18 m_18 sz h_18 => ?_)) rfl
  obtain ⟨rfl, rfl⟩ := h_18
  refine V.retI (pc := 21) hB dX6_growLayer_21 rfl (rfl) (by omega) (by omega) ?_
  exact ⟨rfl, rfl⟩

set_option maxRecDepth 100000 in
set_option maxHeartbeats 4000000 in
theorem c_X6_windowFault {g : xG} (hG : GK g) {i : Nat} (hi : i < 11) {m : Mem} (hL : LW m i) {a b : Int32} : CC g yX6_windowFault (.code yX6_windowFault cX6_windowFault 3 (some .char)) 2 0 0 [.ref (ad g (LA i)), .int a, .int b] m (rI (fun v m2 => v = winF m i a b ∧ m2 = m)) noX := by
  refine CC.mk hG RX6 rfl (by decide +kernel) rfl (Nat.le_of_ble_eq_true rfl) (fun sz B hB hX => ?_)
  show V g B 0 0 _ (hp g m) sz 0 [some (.ref (ad g (LA i))), some (.int a), some (.int b)] []
  refine V.iload_n (pc := 0) hB dX6_windowFault_0 rfl ?_
  refine V.iload_n (pc := 1) hB dX6_windowFault_1 rfl ?_
  refine V.icmp_gt (pc := 2) (tgt := 12) hB dX6_windowFault_2 (by decide) (fun c_2 => ?_) (fun c_2 => ?_)
  · refine V.bipush (pc := 12) (v := 97) hB dX6_windowFault_12 rfl ?_
    refine V.retI (pc := 14) hB dX6_windowFault_14 rfl (rfl) (by omega) (by omega) ?_
    first
    | exact ⟨(if_pos (Or.inl c_2)).symm, rfl⟩
    | exact ⟨(if_pos (Or.inr (Int32.not_le.mp c_9))).symm, rfl⟩
  · refine V.iload_n (pc := 5) hB dX6_windowFault_5 rfl ?_
    refine V.sipush (pc := 6) (v := 9999) hB dX6_windowFault_6 rfl ?_
    refine V.icmp_le (pc := 9) (tgt := 15) hB dX6_windowFault_9 (by decide) (fun c_9 => ?_) (fun c_9 => ?_)
    · refine V.aload_n (pc := 15) hB dX6_windowFault_15 rfl ?_
      refine V.get (pc := 16) hB fk_Land 6 wf_X6_36 dX6_windowFault_16 (by decide) (hp_at (ca_Land (by omega) _)) rfl ?_
      refine V.get (pc := 19) hB fk_Win 2 wf_X6_100 dX6_windowFault_19 (by decide) (hp_at (ca_Win (by omega) _)) rfl ?_
      refine V.bipush (pc := 22) (v := 6) hB dX6_windowFault_22 rfl ?_
      refine V.icmp_ge (pc := 24) (tgt := 35) hB dX6_windowFault_24 (by decide) (fun c_24 => ?_) (fun c_24 => ?_)
      · refine V.bipush (pc := 35) (v := 115) hB dX6_windowFault_35 rfl ?_
        refine V.retI (pc := 37) hB dX6_windowFault_37 rfl (rfl) (by omega) (by omega) ?_
        first
        | exact ⟨((if_neg (fun z => z.elim c_2 (fun z => absurd c_9 (Int32.not_le.mpr z)))).trans (if_pos (Or.inl c_24))).symm, rfl⟩
        | exact ⟨((if_neg (fun z => z.elim c_2 (fun z => absurd c_9 (Int32.not_le.mpr z)))).trans (if_pos (Or.inr (Int32.not_lt.mp c_32)))).symm, rfl⟩
      · refine V.iload_n (pc := 27) hB dX6_windowFault_27 rfl ?_
        refine V.aload_n (pc := 28) hB dX6_windowFault_28 rfl ?_
        refine V.get (pc := 29) hB fk_Land 3 wf_X6_24 dX6_windowFault_29 (by decide) (hp_at (ca_Land (by omega) _)) rfl ?_
        refine V.icmp_gt (pc := 32) (tgt := 38) hB dX6_windowFault_32 (by decide) (fun c_32 => ?_) (fun c_32 => ?_)
        · refine V.aload_n (pc := 38) hB dX6_windowFault_38 rfl ?_
          refine V.get (pc := 39) hB fk_Land 6 wf_X6_36 dX6_windowFault_39 (by decide) (hp_at (ca_Land (by omega) _)) rfl ?_
          refine V.iload_n (pc := 42) hB dX6_windowFault_42 rfl ?_
          refine V.iload_n (pc := 43) hB dX6_windowFault_43 rfl ?_
          refine V.cv (pc := 44) hB cw_X8_meet wm_X6_103 wi_X8_meet ws_X8_meet dX6_windowFault_44 (c_X8_meet hG hi hL.wr) (hp_at (ca_Win (by omega) _)) fk_Win rfl (by omega) (by decide) rfl (by exact Nat.le_of_ble_eq_true rfl) (by omega) (by omega) kN (kI (fun v_44 m_44 sz h_44 => ?_)) rfl
          obtain ⟨rfl, rfl⟩ := h_44
          refine V.if_eq (pc := 47) (tgt := 55) hB dX6_windowFault_47 (by decide) (fun c_47 => ?_) (fun c_47 => ?_)
          · have hm : ¬ meetB (m_44.1 (LA i + 3)) (m_44.1 (LA i + 4)) a b (nWn m_44 i) = true := fun z => by rw [if_pos z] at c_47; exact absurd c_47 (by decide)
            refine V.bipush (pc := 55) (v := 45) hB dX6_windowFault_55 rfl ?_
            refine V.retI (pc := 57) hB dX6_windowFault_57 rfl (rfl) (by omega) (by omega) ?_
            first
            | exact ⟨((if_neg (fun z => z.elim c_2 (fun z => absurd c_9 (Int32.not_le.mpr z)))).trans ((if_neg (fun z => z.elim c_24 (fun z => absurd c_32 (Int32.not_lt.mpr z)))).trans (if_pos hm))).symm, rfl⟩
            | exact ⟨((if_neg (fun z => z.elim c_2 (fun z => absurd c_9 (Int32.not_le.mpr z)))).trans ((if_neg (fun z => z.elim c_24 (fun z => absurd c_32 (Int32.not_lt.mpr z)))).trans (if_neg hm))).symm, rfl⟩
          · have hm : meetB (m_44.1 (LA i + 3)) (m_44.1 (LA i + 4)) a b (nWn m_44 i) = true := Decidable.byContradiction (fun z => c_47 (if_neg z))
            refine V.bipush (pc := 50) (v := 117) hB dX6_windowFault_50 rfl ?_
            refine V.goto (pc := 52) (tgt := 57) hB dX6_windowFault_52 (by decide) ?_
            refine V.retI (pc := 57) hB dX6_windowFault_57 rfl (rfl) (by omega) (by omega) ?_
            first
            | exact ⟨((if_neg (fun z => z.elim c_2 (fun z => absurd c_9 (Int32.not_le.mpr z)))).trans ((if_neg (fun z => z.elim c_24 (fun z => absurd c_32 (Int32.not_lt.mpr z)))).trans (if_pos hm))).symm, rfl⟩
            | exact ⟨((if_neg (fun z => z.elim c_2 (fun z => absurd c_9 (Int32.not_le.mpr z)))).trans ((if_neg (fun z => z.elim c_24 (fun z => absurd c_32 (Int32.not_lt.mpr z)))).trans (if_neg hm))).symm, rfl⟩
        · refine V.bipush (pc := 35) (v := 115) hB dX6_windowFault_35 rfl ?_
          refine V.retI (pc := 37) hB dX6_windowFault_37 rfl (rfl) (by omega) (by omega) ?_
          first
          | exact ⟨((if_neg (fun z => z.elim c_2 (fun z => absurd c_9 (Int32.not_le.mpr z)))).trans (if_pos (Or.inl c_24))).symm, rfl⟩
          | exact ⟨((if_neg (fun z => z.elim c_2 (fun z => absurd c_9 (Int32.not_le.mpr z)))).trans (if_pos (Or.inr (Int32.not_lt.mp c_32)))).symm, rfl⟩
    · refine V.bipush (pc := 12) (v := 97) hB dX6_windowFault_12 rfl ?_
      refine V.retI (pc := 14) hB dX6_windowFault_14 rfl (rfl) (by omega) (by omega) ?_
      first
      | exact ⟨(if_pos (Or.inl c_2)).symm, rfl⟩
      | exact ⟨(if_pos (Or.inr (Int32.not_le.mp c_9))).symm, rfl⟩

set_option maxRecDepth 100000 in
set_option maxHeartbeats 4000000 in
theorem c_X6_openFault {g : xG} (hG : GK g) {i : Nat} (hi : i < 11) {m : Mem} (hL : LW m i) {x : Int32} : CC g yX6_openFault (.code yX6_openFault cX6_openFault 2 (some .char)) 2 0 0 [.ref (ad g (LA i)), .int x] m (rI (fun v m2 => v = openF m i x ∧ m2 = m)) noX := by
  refine CC.mk hG RX6 rfl (by decide +kernel) rfl (Nat.le_of_ble_eq_true rfl) (fun sz B hB hX => ?_)
  show V g B 0 0 _ (hp g m) sz 0 [some (.ref (ad g (LA i))), some (.int x)] []
  refine V.aload_n (pc := 0) hB dX6_openFault_0 rfl ?_
  refine V.get (pc := 1) hB fk_Land 6 wf_X6_36 dX6_openFault_1 (by decide) (hp_at (ca_Land (by omega) _)) rfl ?_
  refine V.iload_n (pc := 4) hB dX6_openFault_4 rfl ?_
  refine V.cv (pc := 5) hB cw_X8_hasPosition wm_X6_107 wi_X8_hasPosition ws_X8_hasPosition dX6_openFault_5 (c_X8_hasPosition hG hi hL.wr) (hp_at (ca_Win (by omega) _)) fk_Win rfl (by omega) (by decide) rfl (by exact Nat.le_of_ble_eq_true rfl) (by omega) (by omega) kN (kI (fun v_5 m_5 sz h_5 => ?_)) rfl
  obtain ⟨rfl, rfl⟩ := h_5
  refine V.if_eq (pc := 8) (tgt := 16) hB dX6_openFault_8 (by decide) (fun c_8 => ?_) (fun c_8 => ?_)
  · refine V.bipush (pc := 16) (v := 98) hB dX6_openFault_16 rfl ?_
    refine V.retI (pc := 18) hB dX6_openFault_18 rfl (rfl) (by omega) (by omega) ?_
    first
    | exact ⟨(if_neg (fun z => by rw [if_pos z] at c_8; exact absurd c_8 (by decide))).symm, rfl⟩
    | exact ⟨(if_pos (Decidable.byContradiction (fun z => c_8 (if_neg z)))).symm, rfl⟩
  · refine V.bipush (pc := 11) (v := 45) hB dX6_openFault_11 rfl ?_
    refine V.goto (pc := 13) (tgt := 18) hB dX6_openFault_13 (by decide) ?_
    refine V.retI (pc := 18) hB dX6_openFault_18 rfl (rfl) (by omega) (by omega) ?_
    first
    | exact ⟨(if_neg (fun z => by rw [if_pos z] at c_8; exact absurd c_8 (by decide))).symm, rfl⟩
    | exact ⟨(if_pos (Decidable.byContradiction (fun z => c_8 (if_neg z)))).symm, rfl⟩

set_option maxRecDepth 100000 in
set_option maxHeartbeats 4000000 in
theorem c_X6_ringFault {g : xG} (hG : GK g) {i : Nat} (hi : i < 11) {m : Mem} (hL : LW m i) {x y : Int32} : CC g yX6_ringFault (.code yX6_ringFault cX6_ringFault 3 (some .char)) 2 0 0 [.ref (ad g (LA i)), .int x, .int y] m (rI (fun v m2 => v = ringF m i x y ∧ m2 = m)) noX := by
  refine CC.mk hG RX6 rfl (by decide +kernel) rfl (Nat.le_of_ble_eq_true rfl) (fun sz B hB hX => ?_)
  show V g B 0 0 _ (hp g m) sz 0 [some (.ref (ad g (LA i))), some (.int x), some (.int y)] []
  refine V.aload_n (pc := 0) hB dX6_ringFault_0 rfl ?_
  refine V.iload_n (pc := 1) hB dX6_ringFault_1 rfl ?_
  refine V.cv (pc := 2) hB cw_X6_hasLake wm_X6_62 wi_X6_hasLake ws_X6_hasLake dX6_ringFault_2 (c_X6_hasLake hG hi hL) (hp_at (ca_Land (by omega) _)) fk_Land rfl (by omega) (by decide) rfl (by exact Nat.le_of_ble_eq_true rfl) (by omega) (by omega) kN (kI (fun v_2 m_2 sz h_2 => ?_)) rfl
  obtain ⟨rfl, rfl⟩ := h_2
  refine V.if_eq (pc := 5) (tgt := 21) hB dX6_ringFault_5 (by decide) (fun c_5 => ?_) (fun c_5 => ?_)
  · have hc : ¬ (0 ≤ x ∧ x < nI (nLk m_2 i)) := fun z => by rw [if_pos z] at c_5; exact absurd c_5 (by decide)
    refine V.bipush (pc := 21) (v := 98) hB dX6_ringFault_21 rfl ?_
    refine V.retI (pc := 23) hB dX6_ringFault_23 rfl (rfl) (by omega) (by omega) ?_
    first
    | exact ⟨(if_neg (fun z => hc z.1)).symm, rfl⟩
    | exact ⟨(if_neg (fun z => hy z.2)).symm, rfl⟩
  · have hc : 0 ≤ x ∧ x < nI (nLk m_2 i) := Decidable.byContradiction (fun z => c_5 (if_neg z))
    obtain ⟨hxe, hxl⟩ := idx_of hc (by have := hL.nl5; omega)
    have hj : x.toNatClampNeg < 5 := by have := hL.nl5; omega
    have hln := hL.ln hxl
    refine V.aload_n (pc := 8) hB dX6_ringFault_8 rfl ?_
    refine V.get (pc := 9) hB fk_Land 0 wf_X6_11 dX6_ringFault_9 (by decide) (hp_at (ca_Land (by omega) _)) rfl ?_
    refine V.iload_n (pc := 12) hB dX6_ringFault_12 rfl ?_
    refine V.aaldLk (pc := 13) hB (by omega) dX6_ringFault_13 (ix_of hc.1 hc.2 (by have := hL.nl5; omega) (hL.nl5)) ?_
    refine V.iload_n (pc := 14) hB dX6_ringFault_14 rfl ?_
    refine V.cv (pc := 15) hB cw_X5_hasLayer wm_X6_110 wi_X5_hasLayer ws_X5_hasLayer dX6_ringFault_15 (c_X5_hasLayer hG hi hj hln) (hp_at (ca_Lake (by omega) (by omega) _)) fk_Lake rfl (by omega) (by decide) rfl (by exact Nat.le_of_ble_eq_true rfl) (by omega) (by omega) kN (kI (fun v_15 m_15 sz h_15 => ?_)) rfl
    obtain ⟨rfl, rfl⟩ := h_15
    refine V.if_ne (pc := 18) (tgt := 24) hB dX6_ringFault_18 (by decide) (fun c_18 => ?_) (fun c_18 => ?_)
    · have hy : 0 ≤ y ∧ y < nI (nLy m_15 i x.toNatClampNeg) := Decidable.byContradiction (fun z => c_18 (if_neg z))
      refine V.aload_n (pc := 24) hB dX6_ringFault_24 rfl ?_
      refine V.get (pc := 25) hB fk_Land 0 wf_X6_11 dX6_ringFault_25 (by decide) (hp_at (ca_Land (by omega) _)) rfl ?_
      refine V.iload_n (pc := 28) hB dX6_ringFault_28 rfl ?_
      refine V.aaldLk (pc := 29) hB (by omega) dX6_ringFault_29 (ix_of hc.1 hc.2 (by have := hL.nl5; omega) (hL.nl5)) ?_
      refine V.get (pc := 30) hB fk_Lake 1 wf_X6_113 dX6_ringFault_30 (by decide) (hp_at (ca_Lake (by omega) (by omega) _)) rfl ?_
      refine V.iload_n (pc := 33) hB dX6_ringFault_33 rfl ?_
      refine V.ialdM (pc := 34) hB (ca_LTemp (by omega) (by omega)) dX6_ringFault_34 (ix_of hy.1 hy.2 (by have := hln.2; omega) hln.2) ?_
      refine V.if_ne (pc := 35) (tgt := 43) hB dX6_ringFault_35 (by decide) (fun c_35 => ?_) (fun c_35 => ?_)
      · refine V.bipush (pc := 43) (v := 45) hB dX6_ringFault_43 rfl ?_
        refine V.retI (pc := 45) hB dX6_ringFault_45 rfl (rfl) (by omega) (by omega) ?_
        first
        | exact ⟨((if_pos ⟨hc, hy⟩).trans (if_pos c_35)).symm, rfl⟩
        | exact ⟨((if_pos ⟨hc, hy⟩).trans (if_neg c_35)).symm, rfl⟩
      · refine V.bipush (pc := 38) (v := 117) hB dX6_ringFault_38 rfl ?_
        refine V.goto (pc := 40) (tgt := 45) hB dX6_ringFault_40 (by decide) ?_
        refine V.retI (pc := 45) hB dX6_ringFault_45 rfl (rfl) (by omega) (by omega) ?_
        first
        | exact ⟨((if_pos ⟨hc, hy⟩).trans (if_pos c_35)).symm, rfl⟩
        | exact ⟨((if_pos ⟨hc, hy⟩).trans (if_neg c_35)).symm, rfl⟩
    · have hy : ¬ (0 ≤ y ∧ y < nI (nLy m_15 i x.toNatClampNeg)) := fun z => by rw [if_pos z] at c_18; exact absurd c_18 (by decide)
      refine V.bipush (pc := 21) (v := 98) hB dX6_ringFault_21 rfl ?_
      refine V.retI (pc := 23) hB dX6_ringFault_23 rfl (rfl) (by omega) (by omega) ?_
      first
      | exact ⟨(if_neg (fun z => hc z.1)).symm, rfl⟩
      | exact ⟨(if_neg (fun z => hy z.2)).symm, rfl⟩

set_option maxRecDepth 100000 in
set_option maxHeartbeats 4000000 in
theorem c_X6_ring {g : xG} (hG : GK g) {i : Nat} (hi : i < 11) {m : Mem} (hL : LW m i) {j y : Nat} (hj : j < nLk m i) (hy : y < 8) : CC g yX6_ring (.code yX6_ring cX6_ring 4 (some .int)) 3 0 0 [.ref (ad g (LA i)), .int (nI j), .int (nI y)] m (rI (fun v m2 => v = pitchV (m.1 (LK i j + 1)) (m.1 (LK i j + 2)) y ∧ m2 = ringM i j y m)) noX := by
  have h5 := hL.nl5
  refine CC.mk hG RX6 rfl (by decide +kernel) rfl (Nat.le_of_ble_eq_true rfl) (fun sz B hB hX => ?_)
  show V g B 0 0 _ (hp g m) sz 0 [some (.ref (ad g (LA i))), some (.int (nI j)), some (.int (nI y)), none] []
  refine V.aload_n (pc := 0) hB dX6_ring_0 rfl ?_
  refine V.get (pc := 1) hB fk_Land 0 wf_X6_11 dX6_ring_1 (by decide) (hp_at (ca_Land (by omega) _)) rfl ?_
  refine V.iload_n (pc := 4) hB dX6_ring_4 rfl ?_
  refine V.aaldLk (pc := 5) hB (by omega) dX6_ring_5 (ix_nI (by omega) (by decide)) ?_
  refine V.iload_n (pc := 6) hB dX6_ring_6 rfl ?_
  refine V.cv (pc := 7) hB cw_X5_pitchOf wm_X6_117 wi_X5_pitchOf ws_X5_pitchOf dX6_ring_7 (c_X5_pitchOf hG hi (by omega) hy) (hp_at (ca_Lake (by omega) (by omega) _)) fk_Lake rfl (by omega) (by decide) rfl (by exact Nat.le_of_ble_eq_true rfl) (by omega) (by omega) kN (kI (fun v_7 m_7 sz h_7 => ?_)) rfl
  obtain ⟨rfl, rfl⟩ := h_7
  refine V.istore_n (pc := 10) hB dX6_ring_10 (by decide) rfl ?_
  refine V.aload_n (pc := 11) hB dX6_ring_11 rfl ?_
  refine V.get (pc := 12) hB fk_Land 7 wf_X6_43 dX6_ring_12 (by decide) (hp_at (ca_Land (by omega) _)) rfl ?_
  refine V.bipush (pc := 15) (v := 115) hB dX6_ring_15 rfl ?_
  refine V.iload_n (pc := 17) hB dX6_ring_17 rfl ?_
  refine V.iload_n (pc := 18) hB dX6_ring_18 rfl ?_
  refine V.aload_n (pc := 19) hB dX6_ring_19 rfl ?_
  refine V.get (pc := 20) hB fk_Land 3 wf_X6_24 dX6_ring_20 (by decide) (hp_at (ca_Land (by omega) _)) rfl ?_
  refine V.cv (pc := 23) hB cw_X7_record wm_X6_120 wi_X7_record ws_X7_record dX6_ring_23 (c_X7_record hG hi hL.pr (by decide)) (hp_at (ca_Peal (by omega) _)) fk_Peal rfl (by omega) (by decide) rfl (by exact Nat.le_of_ble_eq_true rfl) (by omega) (by omega) kN (kV (fun m_23 sz h_23 => ?_)) rfl
  subst h_23
  refine V.iload_n (pc := 26) hB dX6_ring_26 rfl ?_
  refine V.retI (pc := 27) hB dX6_ring_27 rfl (rfl) (by omega) (by omega) ?_
  exact ⟨rfl, rfl⟩
