theorem ne_LA {i o : Nat} (hi : i < 11) (ho : o < 30) : LA i + o ≠ 361 := by unfold LA; split <;> omega
theorem ne_LK {i j o : Nat} (hi : i < 11) (hj : j < 5) (ho : o < 4) : LK i j + o ≠ 361 := by unfold LK LA; split <;> omega
theorem loop_up {N : Nat} {P : Nat → Prop} (h : ∀ q, q ≤ N → (q < N → P (q + 1)) → P q) : ∀ q, q ≤ N → P q := by
  have H : ∀ n q, q ≤ N → N - q = n → P q := by
    intro n
    induction n with
    | zero => intro q hq hn; exact h q hq (fun hl => by omega)
    | succ n ih => intro q hq hn; exact h q hq (fun hl => ih (q + 1) hl (by omega))
  intro q hq
  exact H _ q hq rfl
theorem nge {q N : Nat} {x : Int32} (hx : x = nI N) (hN : N ≤ 1000000) (hq : q ≤ N) (h : x ≤ nI q) : q = N := by
  rw [hx] at h
  exact Nat.le_antisymm hq ((nI_leI (by omega) (by omega)).mp h)
theorem nlt {q N : Nat} {x : Int32} (hx : x = nI N) (hN : N ≤ 1000000) (hq : q ≤ N) (h : ¬ x ≤ nI q) : q < N := by
  rw [hx] at h
  exact Nat.not_le.mp (fun z => h ((nI_leI (by omega) (by omega)).mpr z))
/-- a lake's number of layers -/
def LN (m : Mem) (i j N : Nat) : Prop := m.1 (LK i j) 3 = nI N ∧ N ≤ 8
theorem LN.row {m : Mem} {i j N : Nat} (h : LN m i j N) {k : Nat} (f : Nat → Int32) (hk : LK i j ≠ k) : LN (setRow m k f) i j N := ⟨by rw [setRow_cell m f hk]; exact h.1, h.2⟩
theorem LN.up {m : Mem} {i j N : Nat} (h : LN m i j N) {k y : Nat} (v : Int32) (hk : LK i j ≠ k) : LN (up m k y v) i j N := ⟨by rw [up_cell m y v hk]; exact h.1, h.2⟩
def mvT (air : Int32) (T : Nat → Int32) (N y : Nat) : Int32 :=
  if T y < ((if y = 0 then air else T (y - 1)) + (if y + 1 < N then T (y + 1) else 0)) / 2 ∧ T y < 0 then T y + 1
  else if ((if y = 0 then air else T (y - 1)) + (if y + 1 < N then T (y + 1) else 0)) / 2 < T y then T y - 1 else T y
def upto (n : Nat) (f f0 : Nat → Int32) : Nat → Int32 := fun y => if y < n then f y else f0 y
theorem upto_succ {n : Nat} {f f0 : Nat → Int32} {v : Int32} (hv : f n = v) : ∀ y, upto (n + 1) f f0 y = if y = n then v else upto n f f0 y := by
  intro y
  unfold upto
  by_cases h : y = n
  · subst h; rw [if_pos (by omega), if_pos rfl, hv]
  · rw [if_neg h]
    by_cases h2 : y < n
    · rw [if_pos h2, if_pos (by omega)]
    · rw [if_neg h2, if_neg (by omega)]
theorem upto_zero (f f0 : Nat → Int32) : upto 0 f f0 = f0 := by funext y; exact if_neg (by omega)
theorem upto_skip {n : Nat} {f f0 : Nat → Int32} (hv : f n = f0 n) : upto (n + 1) f f0 = upto n f f0 := by
  funext y
  rw [upto_succ hv y]
  by_cases h : y = n
  · subst h; rw [if_pos rfl]; exact (if_neg (by omega)).symm
  · rw [if_neg h]
theorem upto_ge {n y : Nat} {f f0 : Nat → Int32} (h : n ≤ y) : upto n f f0 y = f0 y := if_neg (by omega)
def absI (x : Int32) : Int32 := if 0 ≤ x then x else -x
def addS (T S : Nat → Int32) (N y : Nat) : Int32 := S y + absI (T y - (if y + 1 < N then T (y + 1) else 0))
def pitchV (K T : Nat → Int32) (q : Nat) : Int32 := 100 / (if 1 < K q then K q else 1) - T q
theorem max1_ne {x : Int32} : ¬ (if (1 : Int32) < x then x else 1) = 0 := by
  split
  · intro h; subst h; rename_i h2; exact absurd h2 (by decide)
  · decide
def pushM (i j N : Nat) (x : Int32) (m : Mem) : Mem := if 0 ≤ x ∧ x < nI N then up m (LK i j + 3) x.toNatClampNeg (m.1 (LK i j + 3) x.toNatClampNeg + 5) else m
def shiftRow (f : Nat → Int32) (n : Nat) : Nat → Int32 := upto n (fun y => f (y + 1)) f
def dropM (i j N : Nat) (m : Mem) : Mem := setRow (setRow (setRow (up m (LK i j) 3 (nI (N - 1))) (LK i j + 1) (shiftRow (m.1 (LK i j + 1)) (N - 1))) (LK i j + 2) (shiftRow (m.1 (LK i j + 2)) (N - 1))) (LK i j + 3) (shiftRow (m.1 (LK i j + 3)) (N - 1))
theorem vp_in_nI_big {n M : Nat} (h : n < M) (hn : n < 2 ^ 31) : vp_in (nI n) M := by
  rintro (h1 | h1)
  · exact nI_pos hn h1
  · rw [nI_clamp hn] at h1; omega
theorem ix_of {x : Int32} {N : Nat} (h0 : 0 ≤ x) (h1 : x < nI N) (hN : N ≤ 1000000) {M : Nat} (hM : N ≤ M) : ix x x.toNatClampNeg M := by
  obtain ⟨j, hj, rfl⟩ := nI_of (Int32.not_lt.mpr h0)
  have h2 := (nI_ltI hj (by omega)).mp h1
  refine ⟨rfl, ?_⟩
  exact vp_in_nI_big (by omega) hj

set_option maxRecDepth 100000 in
set_option maxHeartbeats 4000000 in
theorem c_X5_begin {g : xG} (hG : GK g) {i j : Nat} (hi : i < 11) (hj : j < 5) {m : Mem} {x : Int32} : CC g yX5_begin (.code yX5_begin cX5_begin 2 none) 1 0 0 [.ref (ad g (LK i j)), .int x] m (rV (fun m2 => m2 = up (up (up m (LK i j) 4 x) (LK i j) 3 0) (LK i j) 5 0)) noX := by
  refine CC.mk hG RX5 rfl (by decide +kernel) rfl (Nat.le_of_ble_eq_true rfl) (fun sz B hB hX => ?_)
  show V g B 0 0 _ (hp g m) sz 0 [some (.ref (ad g (LK i j))), some (.int x)] []
  refine V.aload_n (pc := 0) hB dX5_begin_0 rfl ?_
  refine V.iload_n (pc := 1) hB dX5_begin_1 rfl ?_
  refine V.p_Lake_depth (pc := 2) hB wf_X5_25 dX5_begin_2 (by omega) (by omega) ?_
  refine V.aload_n (pc := 5) hB dX5_begin_5 rfl ?_
  refine V.iconst (pc := 6) (v := 0) hB dX5_begin_6 rfl ?_
  refine V.p_Lake_layerCount (pc := 7) hB wf_X5_21 dX5_begin_7 (by omega) (by omega) ?_
  refine V.aload_n (pc := 10) hB dX5_begin_10 rfl ?_
  refine V.iconst (pc := 11) (v := 0) hB dX5_begin_11 rfl ?_
  refine V.p_Lake_cracks (pc := 12) hB wf_X5_28 dX5_begin_12 (by omega) (by omega) ?_
  refine V.retV (pc := 15) hB dX5_begin_15 rfl (by omega) (by omega) ?_
  exact rfl

set_option maxRecDepth 100000 in
set_option maxHeartbeats 4000000 in
theorem c_X5_hasLayer {g : xG} (hG : GK g) {i j : Nat} (hi : i < 11) (hj : j < 5) {m : Mem} {N : Nat} (hN : LN m i j N) {x : Int32} : CC g yX5_hasLayer (.code yX5_hasLayer cX5_hasLayer 2 (some .boolean)) 1 0 0 [.ref (ad g (LK i j)), .int x] m (rI (fun v m2 => v = (if 0 ≤ x ∧ x < nI N then 1 else 0) ∧ m2 = m)) noX := by
  obtain ⟨hN, hN8⟩ := hN
  refine CC.mk hG RX5 rfl (by decide +kernel) rfl (Nat.le_of_ble_eq_true rfl) (fun sz B hB hX => ?_)
  show V g B 0 0 _ (hp g m) sz 0 [some (.ref (ad g (LK i j))), some (.int x)] []
  refine V.iload_n (pc := 0) hB dX5_hasLayer_0 rfl ?_
  refine V.if_lt (pc := 1) (tgt := 16) hB dX5_hasLayer_1 (by decide) (fun c_1 => ?_) (fun c_1 => ?_)
  · refine V.iconst (pc := 16) (v := 0) hB dX5_hasLayer_16 rfl ?_
    refine V.retI (pc := 17) hB dX5_hasLayer_17 rfl (rfl) (by omega) (by omega) ?_
    first
    | exact ⟨(if_neg (fun z => absurd c_1 (Int32.not_lt.mpr z.1))).symm, rfl⟩
    | exact ⟨(if_neg (fun z => by rw [hN] at c_9; exact absurd z.2 (Int32.not_lt.mpr c_9))).symm, rfl⟩
    | exact ⟨(if_pos ⟨Int32.not_lt.mp c_1, by rw [hN] at c_9; exact Int32.not_le.mp c_9⟩).symm, rfl⟩
  · refine V.iload_n (pc := 4) hB dX5_hasLayer_4 rfl ?_
    refine V.aload_n (pc := 5) hB dX5_hasLayer_5 rfl ?_
    refine V.get (pc := 6) hB fk_Lake 3 wf_X5_21 dX5_hasLayer_6 (by decide) (hp_at (ca_Lake (by omega) (by omega) _)) rfl ?_
    refine V.icmp_ge (pc := 9) (tgt := 16) hB dX5_hasLayer_9 (by decide) (fun c_9 => ?_) (fun c_9 => ?_)
    · refine V.iconst (pc := 16) (v := 0) hB dX5_hasLayer_16 rfl ?_
      refine V.retI (pc := 17) hB dX5_hasLayer_17 rfl (rfl) (by omega) (by omega) ?_
      first
      | exact ⟨(if_neg (fun z => absurd c_1 (Int32.not_lt.mpr z.1))).symm, rfl⟩
      | exact ⟨(if_neg (fun z => by rw [hN] at c_9; exact absurd z.2 (Int32.not_lt.mpr c_9))).symm, rfl⟩
      | exact ⟨(if_pos ⟨Int32.not_lt.mp c_1, by rw [hN] at c_9; exact Int32.not_le.mp c_9⟩).symm, rfl⟩
    · refine V.iconst (pc := 12) (v := 1) hB dX5_hasLayer_12 rfl ?_
      refine V.goto (pc := 13) (tgt := 17) hB dX5_hasLayer_13 (by decide) ?_
      refine V.retI (pc := 17) hB dX5_hasLayer_17 rfl (rfl) (by omega) (by omega) ?_
      first
      | exact ⟨(if_neg (fun z => absurd c_1 (Int32.not_lt.mpr z.1))).symm, rfl⟩
      | exact ⟨(if_neg (fun z => by rw [hN] at c_9; exact absurd z.2 (Int32.not_lt.mpr c_9))).symm, rfl⟩
      | exact ⟨(if_pos ⟨Int32.not_lt.mp c_1, by rw [hN] at c_9; exact Int32.not_le.mp c_9⟩).symm, rfl⟩

set_option maxRecDepth 100000 in
set_option maxHeartbeats 4000000 in
theorem c_X5_sumOfLayers1 {g : xG} (hG : GK g) {i j : Nat} (hi : i < 11) (hj : j < 5) {m : Mem} {N : Nat} (hN : LN m i j N) : CC g yX5_sumOfLayers (.code yX5_sumOfLayers cX5_sumOfLayers 4 (some .int)) 1 0 0 [.ref (ad g (LK i j)), .ref (ad g (LK i j + 1))] m (rI (fun v m2 => v = l_sum (m.1 (LK i j + 1)) N ∧ m2 = m)) noX := by
  obtain ⟨hN, hN8⟩ := hN
  refine CC.mk hG RX5 rfl (by decide +kernel) rfl (Nat.le_of_ble_eq_true rfl) (fun sz B hB hX => ?_)
  show V g B 0 0 _ (hp g m) sz 0 [some (.ref (ad g (LK i j))), some (.ref (ad g (LK i j + 1))), none, none] []
  have loop : ∀ q : Nat, q ≤ N → V g B 0 0 (QM g B 0 0 (rI (fun v m2 => v = l_sum (m.1 (LK i j + 1)) N ∧ m2 = m)) noX) (hp g (m)) sz 4 [some (.ref (ad g (LK i j))), some (.ref (ad g (LK i j + 1))), some (.int (l_sum (m.1 (LK i j + 1)) q)), some (.int (nI q))] [] := by
    refine loop_up (fun q hq ih => ?_)
    refine V.iload_n (pc := 4) hB dX5_sumOfLayers_4 rfl ?_
    refine V.aload_n (pc := 5) hB dX5_sumOfLayers_5 rfl ?_
    refine V.get (pc := 6) hB fk_Lake 3 wf_X5_21 dX5_sumOfLayers_6 (by decide) (hp_at (ca_Lake (by omega) (by omega) _)) rfl ?_
    refine V.icmp_ge (pc := 9) (tgt := 24) hB dX5_sumOfLayers_9 (by decide) (fun c_9 => ?_) (fun c_9 => ?_)
    · refine V.iload_n (pc := 24) hB dX5_sumOfLayers_24 rfl ?_
      refine V.retI (pc := 25) hB dX5_sumOfLayers_25 rfl (rfl) (by omega) (by omega) ?_
      refine ⟨?_, rfl⟩
      rw [nge hN (by omega) hq c_9]
    · have hlt : q < N := nlt hN (by omega) hq c_9
      refine V.iload_n (pc := 12) hB dX5_sumOfLayers_12 rfl ?_
      refine V.aload_n (pc := 13) hB dX5_sumOfLayers_13 rfl ?_
      refine V.iload_n (pc := 14) hB dX5_sumOfLayers_14 rfl ?_
      refine V.ialdM (pc := 15) hB (ca_LThick (by omega) (by omega)) dX5_sumOfLayers_15 (ix_nI (by omega) (by decide)) ?_
      refine V.iadd (pc := 16) hB dX5_sumOfLayers_16 ?_
      refine V.istore_n (pc := 17) hB dX5_sumOfLayers_17 (by decide) rfl ?_
      refine V.iinc (pc := 18) (v := nI (q + 1)) hB dX5_sumOfLayers_18 rfl (nI_1 _) (by decide) rfl ?_
      refine V.goto (pc := 21) (tgt := 4) hB dX5_sumOfLayers_21 (by decide) ?_
      exact ih hlt
  refine V.iconst (pc := 0) (v := 0) hB dX5_sumOfLayers_0 rfl ?_
  refine V.istore_n (pc := 1) hB dX5_sumOfLayers_1 (by decide) rfl ?_
  refine V.iconst (pc := 2) (v := 0) hB dX5_sumOfLayers_2 rfl ?_
  refine V.istore_n (pc := 3) hB dX5_sumOfLayers_3 (by decide) rfl ?_
  exact loop 0 (by omega)

set_option maxRecDepth 100000 in
set_option maxHeartbeats 4000000 in
theorem c_X5_iceByLayers {g : xG} (hG : GK g) {i j : Nat} (hi : i < 11) (hj : j < 5) {m : Mem} {N : Nat} (hN : LN m i j N) : CC g yX5_iceByLayers (.code yX5_iceByLayers cX5_iceByLayers 1 (some .int)) 2 0 0 [.ref (ad g (LK i j))] m (rI (fun v m2 => v = l_sum (m.1 (LK i j + 1)) N ∧ m2 = m)) noX := by
  refine CC.mk hG RX5 rfl (by decide +kernel) rfl (Nat.le_of_ble_eq_true rfl) (fun sz B hB hX => ?_)
  show V g B 0 0 _ (hp g m) sz 0 [some (.ref (ad g (LK i j)))] []
  refine V.aload_n (pc := 0) hB dX5_iceByLayers_0 rfl ?_
  refine V.aload_n (pc := 1) hB dX5_iceByLayers_1 rfl ?_
  refine V.get (pc := 2) hB fk_Lake 0 wf_X5_9 dX5_iceByLayers_2 (by decide) (hp_at (ca_Lake (by omega) (by omega) _)) rfl ?_
  refine V.cv (pc := 5) hB cw_X5_sumOfLayers wm_X5_37 wi_X5_sumOfLayers ws_X5_sumOfLayers dX5_iceByLayers_5 (c_X5_sumOfLayers1 hG hi hj hN) (hp_at (ca_Lake (by omega) (by omega) _)) fk_Lake rfl (by omega) (by decide) rfl (by exact Nat.le_of_ble_eq_true rfl) (by omega) (by omega) kN (kI (fun v_5 m_5 sz h_5 => ?_)) rfl
  obtain ⟨rfl, rfl⟩ := h_5
  refine V.retI (pc := 8) hB dX5_iceByLayers_8 rfl (rfl) (by omega) (by omega) ?_
  exact ⟨rfl, rfl⟩

set_option maxRecDepth 100000 in
set_option maxHeartbeats 4000000 in
theorem c_X5_sumOfLayers2 {g : xG} (hG : GK g) {i j : Nat} (hi : i < 11) (hj : j < 5) {m : Mem} {N : Nat} (hN : LN m i j N) : CC g yX5_sumOfLayers (.code yX5_sumOfLayers cX5_sumOfLayers 4 (some .int)) 1 0 0 [.ref (ad g (LK i j)), .ref (ad g (LK i j + 2))] m (rI (fun v m2 => v = l_sum (m.1 (LK i j + 2)) N ∧ m2 = m)) noX := by
  obtain ⟨hN, hN8⟩ := hN
  refine CC.mk hG RX5 rfl (by decide +kernel) rfl (Nat.le_of_ble_eq_true rfl) (fun sz B hB hX => ?_)
  show V g B 0 0 _ (hp g m) sz 0 [some (.ref (ad g (LK i j))), some (.ref (ad g (LK i j + 2))), none, none] []
  have loop : ∀ q : Nat, q ≤ N → V g B 0 0 (QM g B 0 0 (rI (fun v m2 => v = l_sum (m.1 (LK i j + 2)) N ∧ m2 = m)) noX) (hp g (m)) sz 4 [some (.ref (ad g (LK i j))), some (.ref (ad g (LK i j + 2))), some (.int (l_sum (m.1 (LK i j + 2)) q)), some (.int (nI q))] [] := by
    refine loop_up (fun q hq ih => ?_)
    refine V.iload_n (pc := 4) hB dX5_sumOfLayers_4 rfl ?_
    refine V.aload_n (pc := 5) hB dX5_sumOfLayers_5 rfl ?_
    refine V.get (pc := 6) hB fk_Lake 3 wf_X5_21 dX5_sumOfLayers_6 (by decide) (hp_at (ca_Lake (by omega) (by omega) _)) rfl ?_
    refine V.icmp_ge (pc := 9) (tgt := 24) hB dX5_sumOfLayers_9 (by decide) (fun c_9 => ?_) (fun c_9 => ?_)
    · refine V.iload_n (pc := 24) hB dX5_sumOfLayers_24 rfl ?_
      refine V.retI (pc := 25) hB dX5_sumOfLayers_25 rfl (rfl) (by omega) (by omega) ?_
      refine ⟨?_, rfl⟩
      rw [nge hN (by omega) hq c_9]
    · have hlt : q < N := nlt hN (by omega) hq c_9
      refine V.iload_n (pc := 12) hB dX5_sumOfLayers_12 rfl ?_
      refine V.aload_n (pc := 13) hB dX5_sumOfLayers_13 rfl ?_
      refine V.iload_n (pc := 14) hB dX5_sumOfLayers_14 rfl ?_
      refine V.ialdM (pc := 15) hB (ca_LTemp (by omega) (by omega)) dX5_sumOfLayers_15 (ix_nI (by omega) (by decide)) ?_
      refine V.iadd (pc := 16) hB dX5_sumOfLayers_16 ?_
      refine V.istore_n (pc := 17) hB dX5_sumOfLayers_17 (by decide) rfl ?_
      refine V.iinc (pc := 18) (v := nI (q + 1)) hB dX5_sumOfLayers_18 rfl (nI_1 _) (by decide) rfl ?_
      refine V.goto (pc := 21) (tgt := 4) hB dX5_sumOfLayers_21 (by decide) ?_
      exact ih hlt
  refine V.iconst (pc := 0) (v := 0) hB dX5_sumOfLayers_0 rfl ?_
  refine V.istore_n (pc := 1) hB dX5_sumOfLayers_1 (by decide) rfl ?_
  refine V.iconst (pc := 2) (v := 0) hB dX5_sumOfLayers_2 rfl ?_
  refine V.istore_n (pc := 3) hB dX5_sumOfLayers_3 (by decide) rfl ?_
  exact loop 0 (by omega)

set_option maxRecDepth 100000 in
set_option maxHeartbeats 4000000 in
theorem c_X5_temperatureSum {g : xG} (hG : GK g) {i j : Nat} (hi : i < 11) (hj : j < 5) {m : Mem} {N : Nat} (hN : LN m i j N) : CC g yX5_temperatureSum (.code yX5_temperatureSum cX5_temperatureSum 1 (some .int)) 2 0 0 [.ref (ad g (LK i j))] m (rI (fun v m2 => v = l_sum (m.1 (LK i j + 2)) N ∧ m2 = m)) noX := by
  refine CC.mk hG RX5 rfl (by decide +kernel) rfl (Nat.le_of_ble_eq_true rfl) (fun sz B hB hX => ?_)
  show V g B 0 0 _ (hp g m) sz 0 [some (.ref (ad g (LK i j)))] []
  refine V.aload_n (pc := 0) hB dX5_temperatureSum_0 rfl ?_
  refine V.aload_n (pc := 1) hB dX5_temperatureSum_1 rfl ?_
  refine V.get (pc := 2) hB fk_Lake 1 wf_X5_15 dX5_temperatureSum_2 (by decide) (hp_at (ca_Lake (by omega) (by omega) _)) rfl ?_
  refine V.cv (pc := 5) hB cw_X5_sumOfLayers wm_X5_37 wi_X5_sumOfLayers ws_X5_sumOfLayers dX5_temperatureSum_5 (c_X5_sumOfLayers2 hG hi hj hN) (hp_at (ca_Lake (by omega) (by omega) _)) fk_Lake rfl (by omega) (by decide) rfl (by exact Nat.le_of_ble_eq_true rfl) (by omega) (by omega) kN (kI (fun v_5 m_5 sz h_5 => ?_)) rfl
  obtain ⟨rfl, rfl⟩ := h_5
  refine V.retI (pc := 8) hB dX5_temperatureSum_8 rfl (rfl) (by omega) (by omega) ?_
  exact ⟨rfl, rfl⟩

set_option maxRecDepth 100000 in
set_option maxHeartbeats 4000000 in
theorem c_X5_addLayer {g : xG} (hG : GK g) {i j : Nat} (hi : i < 11) (hj : j < 5) {m : Mem} {N : Nat} (hN : LN m i j N) (hN7 : N < 8) {x z : Int32} : CC g yX5_addLayer (.code yX5_addLayer cX5_addLayer 3 (some .int)) 1 0 0 [.ref (ad g (LK i j)), .int x, .int z] m (rI (fun v m2 => v = nI (N + 1) ∧ m2 = up (up (up (up m (LK i j + 1) N x) (LK i j + 2) N z) (LK i j + 3) N 0) (LK i j) 3 (nI (N + 1)))) noX := by
  obtain ⟨hN, hN8⟩ := hN
  refine CC.mk hG RX5 rfl (by decide +kernel) rfl (Nat.le_of_ble_eq_true rfl) (fun sz B hB hX => ?_)
  show V g B 0 0 _ (hp g m) sz 0 [some (.ref (ad g (LK i j))), some (.int x), some (.int z)] []
  refine V.aload_n (pc := 0) hB dX5_addLayer_0 rfl ?_
  refine V.get (pc := 1) hB fk_Lake 0 wf_X5_9 dX5_addLayer_1 (by decide) (hp_at (ca_Lake (by omega) (by omega) _)) rfl ?_
  refine V.aload_n (pc := 4) hB dX5_addLayer_4 rfl ?_
  refine V.get (pc := 5) hB fk_Lake 3 wf_X5_21 dX5_addLayer_5 (by decide) (hp_at (ca_Lake (by omega) (by omega) _)) rfl ?_
  refine V.iload_n (pc := 8) hB dX5_addLayer_8 rfl ?_
  refine V.iastM (pc := 9) hB (ca_LThick (by omega) (by omega)) dX5_addLayer_9 (by rw [hN]; exact ix_nI hN7 (by decide)) (ne_LK (by omega) (by omega) (by omega)) ?_
  refine V.aload_n (pc := 10) hB dX5_addLayer_10 rfl ?_
  refine V.get (pc := 11) hB fk_Lake 1 wf_X5_15 dX5_addLayer_11 (by decide) (hp_at (ca_Lake (by omega) (by omega) _)) rfl ?_
  refine V.aload_n (pc := 14) hB dX5_addLayer_14 rfl ?_
  refine V.get (pc := 15) hB fk_Lake 3 wf_X5_21 dX5_addLayer_15 (by decide) (hp_at (ca_Lake (by omega) (by omega) _)) rfl ?_
  refine V.iload_n (pc := 18) hB dX5_addLayer_18 rfl ?_
  refine V.iastM (pc := 19) hB (ca_LTemp (by omega) (by omega)) dX5_addLayer_19 (by rw [up_cell _ _ _ (by omega), hN]; exact ix_nI hN7 (by decide)) (ne_LK (by omega) (by omega) (by omega)) ?_
  refine V.aload_n (pc := 20) hB dX5_addLayer_20 rfl ?_
  refine V.get (pc := 21) hB fk_Lake 2 wf_X5_18 dX5_addLayer_21 (by decide) (hp_at (ca_Lake (by omega) (by omega) _)) rfl ?_
  refine V.aload_n (pc := 24) hB dX5_addLayer_24 rfl ?_
  refine V.get (pc := 25) hB fk_Lake 3 wf_X5_21 dX5_addLayer_25 (by decide) (hp_at (ca_Lake (by omega) (by omega) _)) rfl ?_
  refine V.iconst (pc := 28) (v := 0) hB dX5_addLayer_28 rfl ?_
  refine V.iastM (pc := 29) hB (ca_LStrain (by omega) (by omega)) dX5_addLayer_29 (by rw [up_cell _ _ _ (by omega), up_cell _ _ _ (by omega), hN]; exact ix_nI hN7 (by decide)) (ne_LK (by omega) (by omega) (by omega)) ?_
  refine V.aload_n (pc := 30) hB dX5_addLayer_30 rfl ?_
  refine V.dup (pc := 31) hB dX5_addLayer_31 rfl ?_
  refine V.get (pc := 32) hB fk_Lake 3 wf_X5_21 dX5_addLayer_32 (by decide) (hp_at (ca_Lake (by omega) (by omega) _)) rfl ?_
  refine V.iconst (pc := 35) (v := 1) hB dX5_addLayer_35 rfl ?_
  refine V.iadd (pc := 36) hB dX5_addLayer_36 ?_
  refine V.p_Lake_layerCount (pc := 37) hB wf_X5_21 dX5_addLayer_37 (by omega) (by omega) ?_
  refine V.aload_n (pc := 40) hB dX5_addLayer_40 rfl ?_
  refine V.get (pc := 41) hB fk_Lake 3 wf_X5_21 dX5_addLayer_41 (by decide) (hp_at (ca_Lake (by omega) (by omega) _)) rfl ?_
  refine V.retI (pc := 44) hB dX5_addLayer_44 rfl (rfl) (by omega) (by omega) ?_
  have e : (up (up (up m (LK i j + 1) N x) (LK i j + 2) N z) (LK i j + 3) N 0).1 (LK i j) 3 = nI N := by rw [up_cell _ _ _ (by omega), up_cell _ _ _ (by omega), up_cell _ _ _ (by omega), hN]
  rw [e, nI_1]
  exact ⟨up_same _ _ _ _, rfl⟩

/-- the first layer whose bottom is beneath x, or -1 -/
def lcF (K : Nat → Int32) (x : Int32) : Nat → Int32 | 0 => -1 | q + 1 => if lcF K x q = -1 then (if x < l_sum K (q + 1) then nI q else -1) else lcF K x q
def lcV (K : Nat → Int32) (x : Int32) (N : Nat) : Int32 := if x < 0 then -1 else lcF K x N
theorem lcF_stay {K : Nat → Int32} {x : Int32} {q : Nat} (hq : q < 1000) (h0 : lcF K x q = -1) (h1 : x < l_sum K (q + 1)) : ∀ N, q < N → lcF K x N = nI q := by
  intro N
  induction N with
  | zero => intro h; omega
  | succ N ih =>
    intro h
    by_cases e : N = q
    · subst e; show (if lcF K x N = -1 then _ else _) = _; rw [if_pos h0, if_pos h1]
    · show (if lcF K x N = -1 then _ else _) = _
      rw [ih (by omega), if_neg]
      intro z
      have h2 : (nI q).toInt = (-1 : Int32).toInt := by rw [z]
      rw [nI_toInt (by omega)] at h2
      have h3 : (-1 : Int32).toInt = -1 := by decide
      omega

set_option maxRecDepth 100000 in
set_option maxHeartbeats 4000000 in
theorem c_X5_layerContaining {g : xG} (hG : GK g) {i j : Nat} (hi : i < 11) (hj : j < 5) {m : Mem} {N : Nat} (hN : LN m i j N) {x : Int32} : CC g yX5_layerContaining (.code yX5_layerContaining cX5_layerContaining 4 (some .int)) 1 0 0 [.ref (ad g (LK i j)), .int x] m (rI (fun v m2 => v = lcV (m.1 (LK i j + 1)) x N ∧ m2 = m)) noX := by
  obtain ⟨hN, hN8⟩ := hN
  refine CC.mk hG RX5 rfl (by decide +kernel) rfl (Nat.le_of_ble_eq_true rfl) (fun sz B hB hX => ?_)
  show V g B 0 0 _ (hp g m) sz 0 [some (.ref (ad g (LK i j))), some (.int x), none, none] []
  have loop : ¬ x < 0 → ∀ q : Nat, q ≤ N → lcF (m.1 (LK i j + 1)) x q = -1 → V g B 0 0 (QM g B 0 0 (rI (fun v m2 => v = lcV (m.1 (LK i j + 1)) x N ∧ m2 = m)) noX) (hp g (m)) sz 10 [some (.ref (ad g (LK i j))), some (.int x), some (.int (l_sum (m.1 (LK i j + 1)) q)), some (.int (nI q))] [] := by
    intro hx
    refine loop_up (fun q hq ih hf => ?_)
    refine V.iload_n (pc := 10) hB dX5_layerContaining_10 rfl ?_
    refine V.aload_n (pc := 11) hB dX5_layerContaining_11 rfl ?_
    refine V.get (pc := 12) hB fk_Lake 3 wf_X5_21 dX5_layerContaining_12 (by decide) (hp_at (ca_Lake (by omega) (by omega) _)) rfl ?_
    refine V.icmp_ge (pc := 15) (tgt := 40) hB dX5_layerContaining_15 (by decide) (fun c_15 => ?_) (fun c_15 => ?_)
    · refine V.iconst (pc := 40) (v := (-1)) hB dX5_layerContaining_40 rfl ?_
      refine V.retI (pc := 41) hB dX5_layerContaining_41 rfl (rfl) (by omega) (by omega) ?_
      refine ⟨?_, rfl⟩
      unfold lcV; rw [if_neg hx, ← nge hN (by omega) hq c_15, hf]
    · have hlt : q < N := nlt hN (by omega) hq c_15
      refine V.iload_n (pc := 18) hB dX5_layerContaining_18 rfl ?_
      refine V.aload_n (pc := 19) hB dX5_layerContaining_19 rfl ?_
      refine V.get (pc := 20) hB fk_Lake 0 wf_X5_9 dX5_layerContaining_20 (by decide) (hp_at (ca_Lake (by omega) (by omega) _)) rfl ?_
      refine V.iload_n (pc := 23) hB dX5_layerContaining_23 rfl ?_
      refine V.ialdM (pc := 24) hB (ca_LThick (by omega) (by omega)) dX5_layerContaining_24 (ix_nI (by omega) (by decide)) ?_
      refine V.iadd (pc := 25) hB dX5_layerContaining_25 ?_
      refine V.istore_n (pc := 26) hB dX5_layerContaining_26 (by decide) rfl ?_
      refine V.iload_n (pc := 27) hB dX5_layerContaining_27 rfl ?_
      refine V.iload_n (pc := 28) hB dX5_layerContaining_28 rfl ?_
      refine V.icmp_ge (pc := 29) (tgt := 34) hB dX5_layerContaining_29 (by decide) (fun c_29 => ?_) (fun c_29 => ?_)
      · refine V.iinc (pc := 34) (v := nI (q + 1)) hB dX5_layerContaining_34 rfl (nI_1 _) (by decide) rfl ?_
        refine V.goto (pc := 37) (tgt := 10) hB dX5_layerContaining_37 (by decide) ?_
        exact ih hlt (by show (if lcF _ x q = -1 then _ else _) = _; rw [if_pos hf, if_neg (show ¬ x < l_sum (m.1 (LK i j + 1)) (q + 1) from fun z => absurd c_29 (Int32.not_le.mpr z))])
      · refine V.iload_n (pc := 32) hB dX5_layerContaining_32 rfl ?_
        refine V.retI (pc := 33) hB dX5_layerContaining_33 rfl (rfl) (by omega) (by omega) ?_
        exact ⟨by unfold lcV; rw [if_neg hx]; exact (lcF_stay (by omega) hf (Int32.not_le.mp c_29) N hlt).symm, rfl⟩
  refine V.iload_n (pc := 0) hB dX5_layerContaining_0 rfl ?_
  refine V.if_ge (pc := 1) (tgt := 6) hB dX5_layerContaining_1 (by decide) (fun c_1 => ?_) (fun c_1 => ?_)
  · refine V.iconst (pc := 6) (v := 0) hB dX5_layerContaining_6 rfl ?_
    refine V.istore_n (pc := 7) hB dX5_layerContaining_7 (by decide) rfl ?_
    refine V.iconst (pc := 8) (v := 0) hB dX5_layerContaining_8 rfl ?_
    refine V.istore_n (pc := 9) hB dX5_layerContaining_9 (by decide) rfl ?_
    exact loop (Int32.not_lt.mpr c_1) 0 (by omega) rfl
  · refine V.iconst (pc := 4) (v := (-1)) hB dX5_layerContaining_4 rfl ?_
    refine V.retI (pc := 5) hB dX5_layerContaining_5 rfl (rfl) (by omega) (by omega) ?_
    exact ⟨(if_pos (Int32.not_le.mp c_1)).symm, rfl⟩

set_option maxRecDepth 100000 in
set_option maxHeartbeats 4000000 in
theorem c_X5_temperatureBeneath {g : xG} (hG : GK g) {i j : Nat} (hi : i < 11) (hj : j < 5) {m : Mem} {N : Nat} (hN : LN m i j N) {q : Nat} (hq : q < N) : CC g yX5_temperatureBeneath (.code yX5_temperatureBeneath cX5_temperatureBeneath 2 (some .int)) 2 0 0 [.ref (ad g (LK i j)), .int (nI q)] m (rI (fun v m2 => v = (if q + 1 < N then m.1 (LK i j + 2) (q + 1) else 0) ∧ m2 = m)) noX := by
  have hN8 := hN.2
  refine CC.mk hG RX5 rfl (by decide +kernel) rfl (Nat.le_of_ble_eq_true rfl) (fun sz B hB hX => ?_)
  show V g B 0 0 _ (hp g m) sz 0 [some (.ref (ad g (LK i j))), some (.int (nI q))] []
  refine V.aload_n (pc := 0) hB dX5_temperatureBeneath_0 rfl ?_
  refine V.iload_n (pc := 1) hB dX5_temperatureBeneath_1 rfl ?_
  refine V.iconst (pc := 2) (v := 1) hB dX5_temperatureBeneath_2 rfl ?_
  refine V.iadd (pc := 3) hB dX5_temperatureBeneath_3 ?_
  refine V.cv (pc := 4) hB cw_X5_hasLayer wm_X5_49 wi_X5_hasLayer ws_X5_hasLayer dX5_temperatureBeneath_4 (c_X5_hasLayer hG hi hj hN (x := nI q + 1)) (hp_at (ca_Lake (by omega) (by omega) _)) fk_Lake rfl (by omega) (by decide) rfl (by exact Nat.le_of_ble_eq_true rfl) (by omega) (by omega) kN (kI (fun v_4 m_4 sz h_4 => ?_)) rfl
  obtain ⟨rfl, rfl⟩ := h_4
  refine V.if_eq (pc := 7) (tgt := 21) hB dX5_temperatureBeneath_7 (by decide) (fun c_7 => ?_) (fun c_7 => ?_)
  · have hlt : ¬ q + 1 < N := fun z => by
      rw [nI_1, if_pos ⟨nI_pos' (by omega), (nI_ltI (by omega) (by have := hN.2; omega)).mpr z⟩] at c_7
      exact absurd c_7 (by decide)
    refine V.iconst (pc := 21) (v := 0) hB dX5_temperatureBeneath_21 rfl ?_
    refine V.retI (pc := 22) hB dX5_temperatureBeneath_22 rfl (rfl) (by omega) (by omega) ?_
    first | exact ⟨(if_pos hlt).symm, rfl⟩ | exact ⟨(if_neg hlt).symm, rfl⟩
  · have hlt : q + 1 < N := Decidable.byContradiction (fun z => c_7 (by rw [nI_1]; exact if_neg (fun w => z ((nI_ltI (by omega) (by have := hN.2; omega)).mp w.2))))
    refine V.aload_n (pc := 10) hB dX5_temperatureBeneath_10 rfl ?_
    refine V.get (pc := 11) hB fk_Lake 1 wf_X5_15 dX5_temperatureBeneath_11 (by decide) (hp_at (ca_Lake (by omega) (by omega) _)) rfl ?_
    refine V.iload_n (pc := 14) hB dX5_temperatureBeneath_14 rfl ?_
    refine V.iconst (pc := 15) (v := 1) hB dX5_temperatureBeneath_15 rfl ?_
    refine V.iadd (pc := 16) hB dX5_temperatureBeneath_16 ?_
    refine V.ialdM (pc := 17) hB (ca_LTemp (by omega) (by omega)) dX5_temperatureBeneath_17 (by rw [show nI q + 1 = nI (q + 1) from nI_1 q]; exact ix_nI (by have := hN.2; omega) (by decide)) ?_
    refine V.goto (pc := 18) (tgt := 22) hB dX5_temperatureBeneath_18 (by decide) ?_
    refine V.retI (pc := 22) hB dX5_temperatureBeneath_22 rfl (rfl) (by omega) (by omega) ?_
    first | exact ⟨(if_pos hlt).symm, rfl⟩ | exact ⟨(if_neg hlt).symm, rfl⟩

set_option maxRecDepth 100000 in
set_option maxHeartbeats 4000000 in
theorem c_X5_moveTemperatures {g : xG} (hG : GK g) {i j : Nat} (hi : i < 11) (hj : j < 5) {m : Mem} {N : Nat} (hN : LN m i j N) {air : Int32} : CC g yX5_moveTemperatures (.code yX5_moveTemperatures cX5_moveTemperatures 6 none) 3 0 0 [.ref (ad g (LK i j)), .int air] m (rV (fun m2 => m2 = setRow m (LK i j + 2) (upto N (mvT air (m.1 (LK i j + 2)) N) (m.1 (LK i j + 2))))) noX := by
  refine CC.mk hG RX5 rfl (by decide +kernel) rfl (Nat.le_of_ble_eq_true rfl) (fun sz B hB hX => ?_)
  show V g B 0 0 _ (hp g m) sz 0 [some (.ref (ad g (LK i j))), some (.int air), none, none, none, none] []
  have loop : ∀ q : Nat, q ≤ N → ∀ (sz : Nat) (ab : Int32) (x4 x5 : Option Value), ab = (if q = 0 then air else m.1 (LK i j + 2) (q - 1)) → V g B 0 0 (QM g B 0 0 (rV (fun m2 => m2 = setRow m (LK i j + 2) (upto N (mvT air (m.1 (LK i j + 2)) N) (m.1 (LK i j + 2))))) noX) (hp g ((setRow m (LK i j + 2) (upto q (mvT air (m.1 (LK i j + 2)) N) (m.1 (LK i j + 2)))))) sz 4 [some (.ref (ad g (LK i j))), some (.int air), some (.int ab), some (.int (nI q)), x4, x5] [] := by
    refine loop_up (fun q hq ih => ?_)
    intro sz ab x4 x5 hab
    subst hab
    have hN8 := hN.2
    have hN2 : LN (setRow m (LK i j + 2) (upto q (mvT air (m.1 (LK i j + 2)) N) (m.1 (LK i j + 2)))) i j N := hN.row _ (by omega)
    refine V.iload_n (pc := 4) hB dX5_moveTemperatures_4 rfl ?_
    refine V.aload_n (pc := 5) hB dX5_moveTemperatures_5 rfl ?_
    refine V.get (pc := 6) hB fk_Lake 3 wf_X5_21 dX5_moveTemperatures_6 (by decide) (hp_at (ca_Lake (by omega) (by omega) _)) rfl ?_
    refine V.icmp_ge (pc := 9) (tgt := 82) hB dX5_moveTemperatures_9 (by decide) (fun c_9 => ?_) (fun c_9 => ?_)
    · have hqN : q = N := nge hN2.1 (by have := hN.2; omega) hq c_9
      refine V.retV (pc := 82) hB dX5_moveTemperatures_82 rfl (by omega) (by omega) ?_
      rw [hqN]
    · have hlt : q < N := nlt hN2.1 (by have := hN.2; omega) hq c_9
      refine V.aload_n (pc := 12) hB dX5_moveTemperatures_12 rfl ?_
      refine V.get (pc := 13) hB fk_Lake 1 wf_X5_15 dX5_moveTemperatures_13 (by decide) (hp_at (ca_Lake (by omega) (by omega) _)) rfl ?_
      refine V.iload_n (pc := 16) hB dX5_moveTemperatures_16 rfl ?_
      refine V.ialdM (pc := 17) hB (ca_LTemp (by omega) (by omega)) dX5_moveTemperatures_17 (ix_nI (by have := hN.2; omega) (by decide)) ?_
      rw [setRow_same, upto_ge (Nat.le_refl q)]
      refine V.istore (pc := 18) hB dX5_moveTemperatures_18 (by decide) rfl ?_
      refine V.iload_n (pc := 20) hB dX5_moveTemperatures_20 rfl ?_
      refine V.aload_n (pc := 21) hB dX5_moveTemperatures_21 rfl ?_
      refine V.iload_n (pc := 22) hB dX5_moveTemperatures_22 rfl ?_
      refine V.cv (pc := 23) hB cw_X5_temperatureBeneath wm_X5_45 wi_X5_temperatureBeneath ws_X5_temperatureBeneath dX5_moveTemperatures_23 (c_X5_temperatureBeneath hG hi hj hN2 hlt) (hp_at (ca_Lake (by omega) (by omega) _)) fk_Lake rfl (by omega) (by decide) rfl (by exact Nat.le_of_ble_eq_true rfl) (by omega) (by omega) kN (kI (fun v_23 m_23 sz h_23 => ?_)) rfl
      obtain ⟨rfl, rfl⟩ := h_23
      rw [setRow_same, upto_ge (Nat.le_succ q)]
      refine V.iadd (pc := 26) hB dX5_moveTemperatures_26 ?_
      refine V.iconst (pc := 27) (v := 2) hB dX5_moveTemperatures_27 rfl ?_
      refine V.idiv (pc := 28) hB dX5_moveTemperatures_28 (by decide) ?_
      refine V.istore (pc := 29) hB dX5_moveTemperatures_29 (by decide) rfl ?_
      refine V.iload (pc := 31) hB dX5_moveTemperatures_31 rfl ?_
      refine V.iload (pc := 33) hB dX5_moveTemperatures_33 rfl ?_
      refine V.icmp_ge (pc := 35) (tgt := 56) hB dX5_moveTemperatures_35 (by decide) (fun c_35 => ?_) (fun c_35 => ?_)
      · refine V.iload (pc := 56) hB dX5_moveTemperatures_56 rfl ?_
        refine V.iload (pc := 58) hB dX5_moveTemperatures_58 rfl ?_
        refine V.icmp_le (pc := 60) (tgt := 73) hB dX5_moveTemperatures_60 (by decide) (fun c_60 => ?_) (fun c_60 => ?_)
        · refine V.mem (m2 := (setRow m (LK i j + 2) (upto (q + 1) (mvT air (m.1 (LK i j + 2)) N) (m.1 (LK i j + 2))))) (by
            first
            | (refine up_set _ _ _ _ _ _ (upto_succ ?_); unfold mvT; exact if_pos ⟨Int32.not_le.mp c_35, Int32.not_le.mp c_40⟩)
            | (refine up_set _ _ _ _ _ _ (upto_succ ?_); unfold mvT; exact (if_neg (fun z => absurd (Int32.le_of_lt z.1) c_60)).trans (if_pos (Int32.not_le.mp c_60)))
            | (refine (congrArg (setRow m (LK i j + 2)) (upto_skip ?_)).symm; unfold mvT; exact (if_neg (fun z => absurd z.1 (Int32.not_lt.mpr c_35))).trans (if_neg (Int32.not_lt.mpr c_60)))
            | (refine (congrArg (setRow m (LK i j + 2)) (upto_skip ?_)).symm; unfold mvT; exact (if_neg (fun z => absurd z.2 (Int32.not_lt.mpr c_40))).trans (if_neg (Int32.not_lt.mpr c_60)))) ?_
          refine V.iload (pc := 73) hB dX5_moveTemperatures_73 rfl ?_
          refine V.istore_n (pc := 75) hB dX5_moveTemperatures_75 (by decide) rfl ?_
          refine V.iinc (pc := 76) (v := nI (q + 1)) hB dX5_moveTemperatures_76 rfl (nI_1 _) (by decide) rfl ?_
          refine V.goto (pc := 79) (tgt := 4) hB dX5_moveTemperatures_79 (by decide) ?_
          exact ih hlt sz _ _ _ rfl
        · refine V.aload_n (pc := 63) hB dX5_moveTemperatures_63 rfl ?_
          refine V.get (pc := 64) hB fk_Lake 1 wf_X5_15 dX5_moveTemperatures_64 (by decide) (hp_at (ca_Lake (by omega) (by omega) _)) rfl ?_
          refine V.iload_n (pc := 67) hB dX5_moveTemperatures_67 rfl ?_
          refine V.iload (pc := 68) hB dX5_moveTemperatures_68 rfl ?_
          refine V.iconst (pc := 70) (v := 1) hB dX5_moveTemperatures_70 rfl ?_
          refine V.isub (pc := 71) hB dX5_moveTemperatures_71 ?_
          refine V.iastM (pc := 72) hB (ca_LTemp (by omega) (by omega)) dX5_moveTemperatures_72 (ix_nI (by have := hN.2; omega) (by decide)) (ne_LK (by omega) (by omega) (by omega)) ?_
          refine V.mem (m2 := (setRow m (LK i j + 2) (upto (q + 1) (mvT air (m.1 (LK i j + 2)) N) (m.1 (LK i j + 2))))) (by
            first
            | (refine up_set _ _ _ _ _ _ (upto_succ ?_); unfold mvT; exact if_pos ⟨Int32.not_le.mp c_35, Int32.not_le.mp c_40⟩)
            | (refine up_set _ _ _ _ _ _ (upto_succ ?_); unfold mvT; exact (if_neg (fun z => absurd (Int32.le_of_lt z.1) c_60)).trans (if_pos (Int32.not_le.mp c_60)))
            | (refine (congrArg (setRow m (LK i j + 2)) (upto_skip ?_)).symm; unfold mvT; exact (if_neg (fun z => absurd z.1 (Int32.not_lt.mpr c_35))).trans (if_neg (Int32.not_lt.mpr c_60)))
            | (refine (congrArg (setRow m (LK i j + 2)) (upto_skip ?_)).symm; unfold mvT; exact (if_neg (fun z => absurd z.2 (Int32.not_lt.mpr c_40))).trans (if_neg (Int32.not_lt.mpr c_60)))) ?_
          refine V.iload (pc := 73) hB dX5_moveTemperatures_73 rfl ?_
          refine V.istore_n (pc := 75) hB dX5_moveTemperatures_75 (by decide) rfl ?_
          refine V.iinc (pc := 76) (v := nI (q + 1)) hB dX5_moveTemperatures_76 rfl (nI_1 _) (by decide) rfl ?_
          refine V.goto (pc := 79) (tgt := 4) hB dX5_moveTemperatures_79 (by decide) ?_
          exact ih hlt sz _ _ _ rfl
      · refine V.iload (pc := 38) hB dX5_moveTemperatures_38 rfl ?_
        refine V.if_ge (pc := 40) (tgt := 56) hB dX5_moveTemperatures_40 (by decide) (fun c_40 => ?_) (fun c_40 => ?_)
        · refine V.iload (pc := 56) hB dX5_moveTemperatures_56 rfl ?_
          refine V.iload (pc := 58) hB dX5_moveTemperatures_58 rfl ?_
          refine V.icmp_le (pc := 60) (tgt := 73) hB dX5_moveTemperatures_60 (by decide) (fun c_60 => ?_) (fun c_60 => ?_)
          · refine V.mem (m2 := (setRow m (LK i j + 2) (upto (q + 1) (mvT air (m.1 (LK i j + 2)) N) (m.1 (LK i j + 2))))) (by
              first
              | (refine up_set _ _ _ _ _ _ (upto_succ ?_); unfold mvT; exact if_pos ⟨Int32.not_le.mp c_35, Int32.not_le.mp c_40⟩)
              | (refine up_set _ _ _ _ _ _ (upto_succ ?_); unfold mvT; exact (if_neg (fun z => absurd (Int32.le_of_lt z.1) c_60)).trans (if_pos (Int32.not_le.mp c_60)))
              | (refine (congrArg (setRow m (LK i j + 2)) (upto_skip ?_)).symm; unfold mvT; exact (if_neg (fun z => absurd z.1 (Int32.not_lt.mpr c_35))).trans (if_neg (Int32.not_lt.mpr c_60)))
              | (refine (congrArg (setRow m (LK i j + 2)) (upto_skip ?_)).symm; unfold mvT; exact (if_neg (fun z => absurd z.2 (Int32.not_lt.mpr c_40))).trans (if_neg (Int32.not_lt.mpr c_60)))) ?_
            refine V.iload (pc := 73) hB dX5_moveTemperatures_73 rfl ?_
            refine V.istore_n (pc := 75) hB dX5_moveTemperatures_75 (by decide) rfl ?_
            refine V.iinc (pc := 76) (v := nI (q + 1)) hB dX5_moveTemperatures_76 rfl (nI_1 _) (by decide) rfl ?_
            refine V.goto (pc := 79) (tgt := 4) hB dX5_moveTemperatures_79 (by decide) ?_
            exact ih hlt sz _ _ _ rfl
          · refine V.aload_n (pc := 63) hB dX5_moveTemperatures_63 rfl ?_
            refine V.get (pc := 64) hB fk_Lake 1 wf_X5_15 dX5_moveTemperatures_64 (by decide) (hp_at (ca_Lake (by omega) (by omega) _)) rfl ?_
            refine V.iload_n (pc := 67) hB dX5_moveTemperatures_67 rfl ?_
            refine V.iload (pc := 68) hB dX5_moveTemperatures_68 rfl ?_
            refine V.iconst (pc := 70) (v := 1) hB dX5_moveTemperatures_70 rfl ?_
            refine V.isub (pc := 71) hB dX5_moveTemperatures_71 ?_
            refine V.iastM (pc := 72) hB (ca_LTemp (by omega) (by omega)) dX5_moveTemperatures_72 (ix_nI (by have := hN.2; omega) (by decide)) (ne_LK (by omega) (by omega) (by omega)) ?_
            refine V.mem (m2 := (setRow m (LK i j + 2) (upto (q + 1) (mvT air (m.1 (LK i j + 2)) N) (m.1 (LK i j + 2))))) (by
              first
              | (refine up_set _ _ _ _ _ _ (upto_succ ?_); unfold mvT; exact if_pos ⟨Int32.not_le.mp c_35, Int32.not_le.mp c_40⟩)
              | (refine up_set _ _ _ _ _ _ (upto_succ ?_); unfold mvT; exact (if_neg (fun z => absurd (Int32.le_of_lt z.1) c_60)).trans (if_pos (Int32.not_le.mp c_60)))
              | (refine (congrArg (setRow m (LK i j + 2)) (upto_skip ?_)).symm; unfold mvT; exact (if_neg (fun z => absurd z.1 (Int32.not_lt.mpr c_35))).trans (if_neg (Int32.not_lt.mpr c_60)))
              | (refine (congrArg (setRow m (LK i j + 2)) (upto_skip ?_)).symm; unfold mvT; exact (if_neg (fun z => absurd z.2 (Int32.not_lt.mpr c_40))).trans (if_neg (Int32.not_lt.mpr c_60)))) ?_
            refine V.iload (pc := 73) hB dX5_moveTemperatures_73 rfl ?_
            refine V.istore_n (pc := 75) hB dX5_moveTemperatures_75 (by decide) rfl ?_
            refine V.iinc (pc := 76) (v := nI (q + 1)) hB dX5_moveTemperatures_76 rfl (nI_1 _) (by decide) rfl ?_
            refine V.goto (pc := 79) (tgt := 4) hB dX5_moveTemperatures_79 (by decide) ?_
            exact ih hlt sz _ _ _ rfl
        · refine V.aload_n (pc := 43) hB dX5_moveTemperatures_43 rfl ?_
          refine V.get (pc := 44) hB fk_Lake 1 wf_X5_15 dX5_moveTemperatures_44 (by decide) (hp_at (ca_Lake (by omega) (by omega) _)) rfl ?_
          refine V.iload_n (pc := 47) hB dX5_moveTemperatures_47 rfl ?_
          refine V.iload (pc := 48) hB dX5_moveTemperatures_48 rfl ?_
          refine V.iconst (pc := 50) (v := 1) hB dX5_moveTemperatures_50 rfl ?_
          refine V.iadd (pc := 51) hB dX5_moveTemperatures_51 ?_
          refine V.iastM (pc := 52) hB (ca_LTemp (by omega) (by omega)) dX5_moveTemperatures_52 (ix_nI (by have := hN.2; omega) (by decide)) (ne_LK (by omega) (by omega) (by omega)) ?_
          refine V.goto (tgt := 73) hB dX5_moveTemperatures_53 (by decide) ?_
          refine V.mem (m2 := (setRow m (LK i j + 2) (upto (q + 1) (mvT air (m.1 (LK i j + 2)) N) (m.1 (LK i j + 2))))) (by
            first
            | (refine up_set _ _ _ _ _ _ (upto_succ ?_); unfold mvT; exact if_pos ⟨Int32.not_le.mp c_35, Int32.not_le.mp c_40⟩)
            | (refine up_set _ _ _ _ _ _ (upto_succ ?_); unfold mvT; exact (if_neg (fun z => absurd (Int32.le_of_lt z.1) c_60)).trans (if_pos (Int32.not_le.mp c_60)))
            | (refine (congrArg (setRow m (LK i j + 2)) (upto_skip ?_)).symm; unfold mvT; exact (if_neg (fun z => absurd z.1 (Int32.not_lt.mpr c_35))).trans (if_neg (Int32.not_lt.mpr c_60)))
            | (refine (congrArg (setRow m (LK i j + 2)) (upto_skip ?_)).symm; unfold mvT; exact (if_neg (fun z => absurd z.2 (Int32.not_lt.mpr c_40))).trans (if_neg (Int32.not_lt.mpr c_60)))) ?_
          refine V.iload (pc := 73) hB dX5_moveTemperatures_73 rfl ?_
          refine V.istore_n (pc := 75) hB dX5_moveTemperatures_75 (by decide) rfl ?_
          refine V.iinc (pc := 76) (v := nI (q + 1)) hB dX5_moveTemperatures_76 rfl (nI_1 _) (by decide) rfl ?_
          refine V.goto (pc := 79) (tgt := 4) hB dX5_moveTemperatures_79 (by decide) ?_
          exact ih hlt sz _ _ _ rfl
  refine V.iload_n (pc := 0) hB dX5_moveTemperatures_0 rfl ?_
  refine V.istore_n (pc := 1) hB dX5_moveTemperatures_1 (by decide) rfl ?_
  refine V.iconst (pc := 2) (v := 0) hB dX5_moveTemperatures_2 rfl ?_
  refine V.istore_n (pc := 3) hB dX5_moveTemperatures_3 (by decide) rfl ?_
  have h0 := loop 0 (by omega) sz _ none none rfl
  rw [upto_zero, setRow_id] at h0
  exact h0
