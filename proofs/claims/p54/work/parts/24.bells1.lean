def faultE (f : Int32) : Option String := if f = 98 then some "java/lang/IndexOutOfBoundsException" else if f = 97 then some "java/lang/IllegalArgumentException" else if f = 115 then some "java/lang/IllegalStateException" else if f = 117 then some "java/lang/UnsupportedOperationException" else none
def hw (m : Mem) : Nat := (m.1 91 2).toNatClampNeg
def hc (m : Mem) : Nat := (m.1 91 1).toNatClampNeg
def rem (m : Mem) : Mem := remH 0 (hw m) (hc m) m
abbrev inL (m : Mem) (x : Int32) : Prop := 0 ≤ x ∧ x < nI (nLk m 0)
abbrev inY (m : Mem) (x y : Int32) : Prop := inL m x ∧ (0 ≤ y ∧ y < nI (nLy m 0 x.toNatClampNeg))
abbrev inP (m : Mem) (r : Int32) : Prop := 0 ≤ r ∧ r < nI (cOf m 0)
/-- the class's state is well formed -/
def CI (m : Mem) : Prop := LW m 0 ∧ HS m (hw m) (hc m) ∧ (∀ q, q < hc m → LW m (3 + (hw m + 7 - q) % 8)) ∧ (m.1 0 3 = 0 ∨ (m.1 0 3 = 1 ∧ LW m 2))
theorem remH_cell {i w cn : Nat} {m : Mem} (h5 : nLk m i ≤ 5) {k : Nat} (h : k < LA (3 + w) ∨ LA (3 + w) + 30 ≤ k) (h2 : k ≠ 91) : (remH i w cn m).1 k = m.1 k := by
  unfold remH
  rw [up_cell _ _ _ h2, up_cell _ _ _ h2, cpLand_cell h5 h]
theorem rem_agr {m : Mem} (hL : LW m 0) {i : Nat} (hi : i < 3) : Agr m (rem m) i := by
  intro o ho
  have h1 := LA_3 (hw m)
  have h2 : LA i + 30 ≤ 91 := by unfold LA; split <;> omega
  exact remH_cell hL.nl5 (by omega) (by omega)
theorem rem_LW {m : Mem} (hL : LW m 0) : LW (rem m) 0 ∧ nLk (rem m) 0 = nLk m 0 := (rem_agr hL (by omega)).lw hL
theorem Agr.nly {m m' : Mem} {i j : Nat} (h : Agr m m' i) (hj : j < 5) : nLy m' i j = nLy m i j := by unfold nLy; rw [show LK i j = LK i j + 0 from rfl, h.lk hj (by omega)]
theorem growF_ok {m : Mem} {i : Nat} {x t te : Int32} (hL : LW m i) (h : growF m i x t te = 45) : (0 ≤ x ∧ x < nI (nLk m i)) ∧ ¬ (t < 1 ∨ 50 < t ∨ te < -40 ∨ 0 < te) ∧ nLy m i x.toNatClampNeg < 8 ∧ ¬ m.1 (LK i x.toNatClampNeg) 4 < 2 * (iceV m i x.toNatClampNeg + t) := by
  unfold growF at h
  by_cases h1 : 0 ≤ x ∧ x < nI (nLk m i)
  · rw [if_neg (fun z => z h1)] at h
    by_cases h2 : t < 1 ∨ 50 < t ∨ te < -40 ∨ 0 < te
    · rw [if_pos h2] at h; exact absurd h (by decide)
    · rw [if_neg h2] at h
      by_cases h3 : 8 ≤ m.1 (LK i x.toNatClampNeg) 3
      · rw [if_pos h3] at h; exact absurd h (by decide)
      · rw [if_neg h3] at h
        by_cases h4 : m.1 (LK i x.toNatClampNeg) 4 < 2 * (iceV m i x.toNatClampNeg + t)
        · rw [if_pos h4] at h; exact absurd h (by decide)
        · refine ⟨h1, h2, Nat.not_le.mp (fun z => h3 ?_), h4⟩
          have hx := (idx_of h1 (by have := hL.nl5; omega)).2
          rw [(hL.ln hx).1]
          exact (nI_leI (a := 8) (by decide) (by have := (hL.ln hx).2; omega)).mpr z
  · rw [if_pos h1] at h; exact absurd h (by decide)
theorem ringF_ok {m : Mem} {i : Nat} {x y : Int32} (h : ringF m i x y = 45) : ((0 ≤ x ∧ x < nI (nLk m i)) ∧ (0 ≤ y ∧ y < nI (nLy m i x.toNatClampNeg))) ∧ ¬ m.1 (LK i x.toNatClampNeg + 2) y.toNatClampNeg = 0 := by
  unfold ringF at h
  split at h
  · rename_i h1
    refine ⟨h1, fun z => ?_⟩
    rw [if_pos z] at h; exact absurd h (by decide)
  · exact absurd h (by decide)
theorem winF_ok {m : Mem} {i : Nat} {a b : Int32} (hL : LW m i) (h : winF m i a b = 45) : nWn m i < 6 := by
  unfold winF at h
  split at h
  · exact absurd h (by decide)
  · split at h
    · exact absurd h (by decide)
    · rename_i h2
      refine Nat.not_le.mp (fun z => h2 (Or.inl ?_))
      rw [hL.wr.1]
      exact (nI_leI (a := 6) (by decide) (by have := hL.wr.2; omega)).mpr z
theorem openF_ok {m : Mem} {i : Nat} {x : Int32} (h : openF m i x = 45) : 0 ≤ x ∧ x < nI (nWn m i) := by
  unfold openF at h
  split at h
  · assumption
  · exact absurd h (by decide)
theorem placeF_ok {m : Mem} {i : Nat} {x : Int32} (hL : LW m i) (h : placeF m i x = 45) : nLk m i < 5 ∧ ¬ (x < 20 ∨ 400 < x) := by
  unfold placeF at h
  split at h
  · exact absurd h (by decide)
  · rename_i h1
    split at h
    · rename_i h2
      rw [hL.nl] at h2
      exact ⟨(nI_ltI (b := 5) (by have := hL.nl5; omega) (by decide)).mp h2, h1⟩
    · exact absurd h (by decide)
theorem passF_ok {x : Int32} (h : passF x = 45) : x = nI x.toNatClampNeg ∧ x.toNatClampNeg ≤ 48 ∧ 1 ≤ x.toNatClampNeg := by
  unfold passF at h
  split at h
  · exact absurd h (by decide)
  · rename_i h1
    have h2 : 1 ≤ x := Int32.not_lt.mp (fun z => h1 (Or.inl z))
    have h3 : x ≤ 48 := Int32.not_lt.mp (fun z => h1 (Or.inr z))
    obtain ⟨j, hj, rfl⟩ := nI_of (x := x) (Int32.not_lt.mpr (Int32.le_trans (by decide) h2))
    rw [nI_clamp hj]
    exact ⟨rfl, (nI_leI hj (b := 48) (by decide)).mp h3, (nI_leI (a := 1) (by decide) hj).mp h2⟩
/-- a spec's fault, or none of the letters -/
def okF (f : Int32) : Prop := f = 45 ∨ f = 98 ∨ f = 97 ∨ f = 115 ∨ f = 117
theorem okF_none {f : Int32} (h : okF f) (hn : faultE f = none) : f = 45 := by
  rcases h with rfl | rfl | rfl | rfl | rfl
  · rfl
  all_goals exact absurd hn (by decide)
theorem placeF_in (m : Mem) (i : Nat) (d : Int32) : okF (placeF m i d) := by unfold placeF okF; split <;> (try split) <;> simp
theorem growF_in (m : Mem) (i : Nat) (x t te : Int32) : okF (growF m i x t te) := by unfold growF okF; split <;> (try split) <;> (try split) <;> (try split) <;> simp
theorem airF_in (d : Int32) : okF (airF d) := by unfold airF okF; split <;> simp
theorem passF_in (d : Int32) : okF (passF d) := by unfold passF okF; split <;> simp
theorem winF_in (m : Mem) (i : Nat) (a b : Int32) : okF (winF m i a b) := by unfold winF okF; split <;> (try split) <;> (try split) <;> simp
theorem openF_in (m : Mem) (i : Nat) (x : Int32) : okF (openF m i x) := by unfold openF okF; split <;> simp
theorem ringF_in (m : Mem) (i : Nat) (x y : Int32) : okF (ringF m i x y) := by unfold ringF okF; split <;> (try split) <;> simp

/-- an index as a plain number -/
theorem idx_j {x : Int32} {n : Nat} (h : 0 ≤ x ∧ x < nI n) (hn : n ≤ 1000000) : ∃ j, x = nI j ∧ j < n ∧ x.toNatClampNeg = j := ⟨_, (idx_of h hn).1, (idx_of h hn).2, rfl⟩

set_option maxRecDepth 100000 in
set_option maxHeartbeats 4000000 in
theorem c_X9_refuseOn {g : xG} (hG : GK g) {m : Mem} {f : Int32} : CC g yX9_refuseOn (.code yX9_refuseOn cX9_refuseOn 1 none) 1 1 6 [.int f] m (rV (fun m2 => faultE f = none ∧ m2 = m)) (fun E m2 => faultE f = some E ∧ m2 = m) := by
  refine CC.mkX hG RX9 rfl (by decide +kernel) rfl (Nat.le_of_ble_eq_true rfl) (fun sz B hB hX hS => ?_)
  show V g B 0 0 _ (hp g m) sz 0 [some (.int f)] []
  refine V.iload_n (pc := 0) hB dX9_refuseOn_0 rfl ?_
  refine V.bipush (pc := 1) (v := 98) hB dX9_refuseOn_1 rfl ?_
  refine V.icmp_ne (pc := 3) (tgt := 17) hB dX9_refuseOn_3 (by decide) (fun c_3 => ?_) (fun c_3 => ?_)
  · refine V.iload_n (pc := 17) hB dX9_refuseOn_17 rfl ?_
    refine V.bipush (pc := 18) (v := 97) hB dX9_refuseOn_18 rfl ?_
    refine V.icmp_ne (pc := 20) (tgt := 34) hB dX9_refuseOn_20 (by decide) (fun c_20 => ?_) (fun c_20 => ?_)
    · refine V.iload_n (pc := 34) hB dX9_refuseOn_34 rfl ?_
      refine V.bipush (pc := 35) (v := 115) hB dX9_refuseOn_35 rfl ?_
      refine V.icmp_ne (pc := 37) (tgt := 51) hB dX9_refuseOn_37 (by decide) (fun c_37 => ?_) (fun c_37 => ?_)
      · refine V.iload_n (pc := 51) hB dX9_refuseOn_51 rfl ?_
        refine V.bipush (pc := 52) (v := 117) hB dX9_refuseOn_52 rfl ?_
        refine V.icmp_ne (pc := 54) (tgt := 68) hB dX9_refuseOn_54 (by decide) (fun c_54 => ?_) (fun c_54 => ?_)
        · refine V.retV (pc := 68) hB dX9_refuseOn_68 rfl (by omega) (by omega) ?_
          exact ⟨by unfold faultE; rw [if_neg c_3, if_neg c_20, if_neg c_37, if_neg c_54], rfl⟩
        · refine V.throwSW (pc := 57) hB hX hS tw_370_372 dX9_refuseOn_57 dX9_refuseOn_60 dX9_refuseOn_61 dX9_refuseOn_64 dX9_refuseOn_67 (by omega) (by exact Nat.le_of_ble_eq_true rfl) (by omega) (by omega) (fun _ => ⟨_, rfl, ?_⟩)
          first
          | exact ⟨by unfold faultE; rw [if_pos c_3], rfl⟩
          | exact ⟨by unfold faultE; rw [if_neg c_3, if_pos c_20], rfl⟩
          | exact ⟨by unfold faultE; rw [if_neg c_3, if_neg c_20, if_pos c_37], rfl⟩
          | exact ⟨by unfold faultE; rw [if_neg c_3, if_neg c_20, if_neg c_37, if_pos c_54], rfl⟩
      · refine V.throwSW (pc := 40) hB hX hS tw_263_368 dX9_refuseOn_40 dX9_refuseOn_43 dX9_refuseOn_44 dX9_refuseOn_47 dX9_refuseOn_50 (by omega) (by exact Nat.le_of_ble_eq_true rfl) (by omega) (by omega) (fun _ => ⟨_, rfl, ?_⟩)
        first
        | exact ⟨by unfold faultE; rw [if_pos c_3], rfl⟩
        | exact ⟨by unfold faultE; rw [if_neg c_3, if_pos c_20], rfl⟩
        | exact ⟨by unfold faultE; rw [if_neg c_3, if_neg c_20, if_pos c_37], rfl⟩
        | exact ⟨by unfold faultE; rw [if_neg c_3, if_neg c_20, if_neg c_37, if_pos c_54], rfl⟩
    · refine V.throwSW (pc := 23) hB hX hS tw_254_366 dX9_refuseOn_23 dX9_refuseOn_26 dX9_refuseOn_27 dX9_refuseOn_30 dX9_refuseOn_33 (by omega) (by exact Nat.le_of_ble_eq_true rfl) (by omega) (by omega) (fun _ => ⟨_, rfl, ?_⟩)
      first
      | exact ⟨by unfold faultE; rw [if_pos c_3], rfl⟩
      | exact ⟨by unfold faultE; rw [if_neg c_3, if_pos c_20], rfl⟩
      | exact ⟨by unfold faultE; rw [if_neg c_3, if_neg c_20, if_pos c_37], rfl⟩
      | exact ⟨by unfold faultE; rw [if_neg c_3, if_neg c_20, if_neg c_37, if_pos c_54], rfl⟩
  · refine V.throwSW (pc := 6) hB hX hS tw_315_364 dX9_refuseOn_6 dX9_refuseOn_9 dX9_refuseOn_10 dX9_refuseOn_13 dX9_refuseOn_16 (by omega) (by exact Nat.le_of_ble_eq_true rfl) (by omega) (by omega) (fun _ => ⟨_, rfl, ?_⟩)
    first
    | exact ⟨by unfold faultE; rw [if_pos c_3], rfl⟩
    | exact ⟨by unfold faultE; rw [if_neg c_3, if_pos c_20], rfl⟩
    | exact ⟨by unfold faultE; rw [if_neg c_3, if_neg c_20, if_pos c_37], rfl⟩
    | exact ⟨by unfold faultE; rw [if_neg c_3, if_neg c_20, if_neg c_37, if_pos c_54], rfl⟩

set_option maxRecDepth 100000 in
set_option maxHeartbeats 4000000 in
theorem c_X9_lakeNumbered {g : xG} (hG : GK g) {m : Mem} (hI : CI m) {x : Int32} : CC g yX9_lakeNumbered (.code yX9_lakeNumbered cX9_lakeNumbered 2 (some (.object "IceBells$Lake"))) 2 1 6 [.ref (ad g 0), .int x] m (rR g (fun a m2 => inL m x ∧ a = LK 0 x.toNatClampNeg ∧ m2 = m)) (fun E m2 => E = "java/lang/IndexOutOfBoundsException" ∧ ¬ inL m x ∧ m2 = m) := by
  refine CC.mkX hG RX9 rfl (by decide +kernel) rfl (Nat.le_of_ble_eq_true rfl) (fun sz B hB hX hS => ?_)
  show V g B 0 0 _ (hp g m) sz 0 [some (.ref (ad g 0)), some (.int x)] []
  refine V.aload_n (pc := 0) hB dX9_lakeNumbered_0 rfl ?_
  refine V.get (pc := 1) hB fk_Bells 0 wf_X9_12 dX9_lakeNumbered_1 (by decide) (hp_at (ca_Bells _)) rfl ?_
  refine V.iload_n (pc := 4) hB dX9_lakeNumbered_4 rfl ?_
  refine V.cv (pc := 5) hB cw_X6_hasLake wm_X9_349 wi_X6_hasLake ws_X6_hasLake dX9_lakeNumbered_5 (c_X6_hasLake hG (by omega) hI.1) (hp_at (ca_Land (by omega) _)) fk_Land rfl (by omega) (by decide) rfl (by exact Nat.le_of_ble_eq_true rfl) (by omega) (by omega) kN (kI (fun v_5 m_5 sz h_5 => ?_)) rfl
  obtain ⟨rfl, rfl⟩ := h_5
  refine V.if_ne (pc := 8) (tgt := 22) hB dX9_lakeNumbered_8 (by decide) (fun c_8 => ?_) (fun c_8 => ?_)
  · have hc : inL m_5 x := Decidable.byContradiction (fun z => c_8 (if_neg z))
    have hx := (idx_of hc (by have := hI.1.nl5; omega)).2
    have h5 := hI.1.nl5
    refine V.aload_n (pc := 22) hB dX9_lakeNumbered_22 rfl ?_
    refine V.get (pc := 23) hB fk_Bells 0 wf_X9_12 dX9_lakeNumbered_23 (by decide) (hp_at (ca_Bells _)) rfl ?_
    refine V.get (pc := 26) hB fk_Land 0 wf_X9_157 dX9_lakeNumbered_26 (by decide) (hp_at (ca_Land (by omega) _)) rfl ?_
    refine V.iload_n (pc := 29) hB dX9_lakeNumbered_29 rfl ?_
    refine V.aaldLk (pc := 30) hB (by omega) dX9_lakeNumbered_30 (ix_of hc.1 hc.2 (by omega) h5) ?_
    refine V.retR (pc := 31) hB dX9_lakeNumbered_31 rfl (Or.inl ⟨_, rfl⟩) (by omega) (by omega) ?_
    exact ⟨hc, rfl, rfl⟩
  · have hc : ¬ inL m_5 x := fun z => absurd ((if_pos z).symm.trans c_8) (by decide)
    refine V.throwSW (pc := 11) hB hX hS tw_315_352 dX9_lakeNumbered_11 dX9_lakeNumbered_14 dX9_lakeNumbered_15 dX9_lakeNumbered_18 dX9_lakeNumbered_21 (by omega) (by exact Nat.le_of_ble_eq_true rfl) (by omega) (by omega) (fun _ => ⟨_, rfl, ?_⟩)
    exact ⟨rfl, hc, rfl⟩

set_option maxRecDepth 100000 in
set_option maxHeartbeats 4000000 in
theorem c_X9_depth {g : xG} (hG : GK g) {m : Mem} (hI : CI m) {x : Int32} : CC g yX9_depth (.code yX9_depth cX9_depth 2 (some .int)) 3 1 6 [.ref (ad g 0), .int x] m (rI (fun v m2 => inL m x ∧ v = m.1 (LK 0 x.toNatClampNeg) 4 ∧ m2 = m)) (fun E m2 => E = "java/lang/IndexOutOfBoundsException" ∧ ¬ inL m x ∧ m2 = m) := by
  refine CC.mk hG RX9 rfl (by decide +kernel) rfl (Nat.le_of_ble_eq_true rfl) (fun sz B hB hX => ?_)
  show V g B 0 0 _ (hp g m) sz 0 [some (.ref (ad g 0)), some (.int x)] []
  refine V.aload_n (pc := 0) hB dX9_depth_0 rfl ?_
  refine V.iload_n (pc := 1) hB dX9_depth_1 rfl ?_
  refine V.cv (pc := 2) hB cw_X9_lakeNumbered wm_X9_89 wi_X9_lakeNumbered ws_X9_lakeNumbered dX9_depth_2 (c_X9_lakeNumbered hG hI) (hp_at (ca_Bells _)) fk_Bells rfl (by omega) (by decide) rfl (by exact Nat.le_of_ble_eq_true rfl) (by omega) (by omega) (fun E m2 sz hx => VX.outM hB hX (by omega) (by omega) hx) (kR (fun v_2 m_2 sz h_2 => ?_)) rfl
  obtain ⟨hc, rfl, rfl⟩ := h_2
  obtain ⟨hxe, hx⟩ := idx_of hc (by have := hI.1.nl5; omega)
  have h5 := hI.1.nl5
  have hln := hI.1.ln hx
  refine V.get (pc := 5) hB fk_Lake 4 wf_X9_93 dX9_depth_5 (by decide) (hp_at (ca_Lake (by omega) (by omega) _)) rfl ?_
  refine V.retI (pc := 8) hB dX9_depth_8 rfl (rfl) (by omega) (by omega) ?_
  exact ⟨hc, rfl, rfl⟩

set_option maxRecDepth 100000 in
set_option maxHeartbeats 4000000 in
theorem c_X9_layerCount {g : xG} (hG : GK g) {m : Mem} (hI : CI m) {x : Int32} : CC g yX9_layerCount (.code yX9_layerCount cX9_layerCount 2 (some .int)) 3 1 6 [.ref (ad g 0), .int x] m (rI (fun v m2 => inL m x ∧ v = m.1 (LK 0 x.toNatClampNeg) 3 ∧ m2 = m)) (fun E m2 => E = "java/lang/IndexOutOfBoundsException" ∧ ¬ inL m x ∧ m2 = m) := by
  refine CC.mk hG RX9 rfl (by decide +kernel) rfl (Nat.le_of_ble_eq_true rfl) (fun sz B hB hX => ?_)
  show V g B 0 0 _ (hp g m) sz 0 [some (.ref (ad g 0)), some (.int x)] []
  refine V.aload_n (pc := 0) hB dX9_layerCount_0 rfl ?_
  refine V.iload_n (pc := 1) hB dX9_layerCount_1 rfl ?_
  refine V.cv (pc := 2) hB cw_X9_lakeNumbered wm_X9_89 wi_X9_lakeNumbered ws_X9_lakeNumbered dX9_layerCount_2 (c_X9_lakeNumbered hG hI) (hp_at (ca_Bells _)) fk_Bells rfl (by omega) (by decide) rfl (by exact Nat.le_of_ble_eq_true rfl) (by omega) (by omega) (fun E m2 sz hx => VX.outM hB hX (by omega) (by omega) hx) (kR (fun v_2 m_2 sz h_2 => ?_)) rfl
  obtain ⟨hc, rfl, rfl⟩ := h_2
  obtain ⟨hxe, hx⟩ := idx_of hc (by have := hI.1.nl5; omega)
  have h5 := hI.1.nl5
  have hln := hI.1.ln hx
  refine V.get (pc := 5) hB fk_Lake 3 wf_X9_98 dX9_layerCount_5 (by decide) (hp_at (ca_Lake (by omega) (by omega) _)) rfl ?_
  refine V.retI (pc := 8) hB dX9_layerCount_8 rfl (rfl) (by omega) (by omega) ?_
  exact ⟨hc, rfl, rfl⟩

set_option maxRecDepth 100000 in
set_option maxHeartbeats 4000000 in
theorem c_X9_cracksOf {g : xG} (hG : GK g) {m : Mem} (hI : CI m) {x : Int32} : CC g yX9_cracksOf (.code yX9_cracksOf cX9_cracksOf 2 (some .int)) 3 1 6 [.ref (ad g 0), .int x] m (rI (fun v m2 => inL m x ∧ v = m.1 (LK 0 x.toNatClampNeg) 5 ∧ m2 = m)) (fun E m2 => E = "java/lang/IndexOutOfBoundsException" ∧ ¬ inL m x ∧ m2 = m) := by
  refine CC.mk hG RX9 rfl (by decide +kernel) rfl (Nat.le_of_ble_eq_true rfl) (fun sz B hB hX => ?_)
  show V g B 0 0 _ (hp g m) sz 0 [some (.ref (ad g 0)), some (.int x)] []
  refine V.aload_n (pc := 0) hB dX9_cracksOf_0 rfl ?_
  refine V.iload_n (pc := 1) hB dX9_cracksOf_1 rfl ?_
  refine V.cv (pc := 2) hB cw_X9_lakeNumbered wm_X9_89 wi_X9_lakeNumbered ws_X9_lakeNumbered dX9_cracksOf_2 (c_X9_lakeNumbered hG hI) (hp_at (ca_Bells _)) fk_Bells rfl (by omega) (by decide) rfl (by exact Nat.le_of_ble_eq_true rfl) (by omega) (by omega) (fun E m2 sz hx => VX.outM hB hX (by omega) (by omega) hx) (kR (fun v_2 m_2 sz h_2 => ?_)) rfl
  obtain ⟨hc, rfl, rfl⟩ := h_2
  obtain ⟨hxe, hx⟩ := idx_of hc (by have := hI.1.nl5; omega)
  have h5 := hI.1.nl5
  have hln := hI.1.ln hx
  refine V.get (pc := 5) hB fk_Lake 5 wf_X9_237 dX9_cracksOf_5 (by decide) (hp_at (ca_Lake (by omega) (by omega) _)) rfl ?_
  refine V.retI (pc := 8) hB dX9_cracksOf_8 rfl (rfl) (by omega) (by omega) ?_
  exact ⟨hc, rfl, rfl⟩

set_option maxRecDepth 100000 in
set_option maxHeartbeats 4000000 in
theorem c_X9_iceThickness {g : xG} (hG : GK g) {m : Mem} (hI : CI m) {x : Int32} : CC g yX9_iceThickness (.code yX9_iceThickness cX9_iceThickness 2 (some .int)) 6 1 6 [.ref (ad g 0), .int x] m (rI (fun v m2 => inL m x ∧ v = iceV m 0 x.toNatClampNeg ∧ m2 = m)) (fun E m2 => E = "java/lang/IndexOutOfBoundsException" ∧ ¬ inL m x ∧ m2 = m) := by
  refine CC.mk hG RX9 rfl (by decide +kernel) rfl (Nat.le_of_ble_eq_true rfl) (fun sz B hB hX => ?_)
  show V g B 0 0 _ (hp g m) sz 0 [some (.ref (ad g 0)), some (.int x)] []
  refine V.aload_n (pc := 0) hB dX9_iceThickness_0 rfl ?_
  refine V.iload_n (pc := 1) hB dX9_iceThickness_1 rfl ?_
  refine V.cv (pc := 2) hB cw_X9_lakeNumbered wm_X9_89 wi_X9_lakeNumbered ws_X9_lakeNumbered dX9_iceThickness_2 (c_X9_lakeNumbered hG hI) (hp_at (ca_Bells _)) fk_Bells rfl (by omega) (by decide) rfl (by exact Nat.le_of_ble_eq_true rfl) (by omega) (by omega) (fun E m2 sz hx => VX.outM hB hX (by omega) (by omega) hx) (kR (fun v_2 m_2 sz h_2 => ?_)) rfl
  obtain ⟨hc, rfl, rfl⟩ := h_2
  obtain ⟨hxe, hx⟩ := idx_of hc (by have := hI.1.nl5; omega)
  have h5 := hI.1.nl5
  have hln := hI.1.ln hx
  refine V.cv (pc := 5) hB cw_X5_iceByLayers wm_X9_114 wi_X5_iceByLayers ws_X5_iceByLayers dX9_iceThickness_5 (c_X5_iceByLayers hG (by omega) (by omega) hln) (hp_at (ca_Lake (by omega) (by omega) _)) fk_Lake rfl (by omega) (by decide) rfl (by exact Nat.le_of_ble_eq_true rfl) (by omega) (by omega) kN (kI (fun v_5 m_5 sz h_5 => ?_)) rfl
  obtain ⟨rfl, rfl⟩ := h_5
  refine V.retI (pc := 8) hB dX9_iceThickness_8 rfl (rfl) (by omega) (by omega) ?_
  exact ⟨hc, rfl, rfl⟩

set_option maxRecDepth 100000 in
set_option maxHeartbeats 4000000 in
theorem c_X9_iceThicknessByHalves {g : xG} (hG : GK g) {m : Mem} (hI : CI m) {x : Int32} : CC g yX9_iceThicknessByHalves (.code yX9_iceThicknessByHalves cX9_iceThicknessByHalves 2 (some .int)) 6 1 6 [.ref (ad g 0), .int x] m (rI (fun v m2 => inL m x ∧ v = iceV m 0 x.toNatClampNeg ∧ m2 = m)) (fun E m2 => E = "java/lang/IndexOutOfBoundsException" ∧ ¬ inL m x ∧ m2 = m) := by
  refine CC.mk hG RX9 rfl (by decide +kernel) rfl (Nat.le_of_ble_eq_true rfl) (fun sz B hB hX => ?_)
  show V g B 0 0 _ (hp g m) sz 0 [some (.ref (ad g 0)), some (.int x)] []
  refine V.aload_n (pc := 0) hB dX9_iceThicknessByHalves_0 rfl ?_
  refine V.iload_n (pc := 1) hB dX9_iceThicknessByHalves_1 rfl ?_
  refine V.cv (pc := 2) hB cw_X9_lakeNumbered wm_X9_89 wi_X9_lakeNumbered ws_X9_lakeNumbered dX9_iceThicknessByHalves_2 (c_X9_lakeNumbered hG hI) (hp_at (ca_Bells _)) fk_Bells rfl (by omega) (by decide) rfl (by exact Nat.le_of_ble_eq_true rfl) (by omega) (by omega) (fun E m2 sz hx => VX.outM hB hX (by omega) (by omega) hx) (kR (fun v_2 m_2 sz h_2 => ?_)) rfl
  obtain ⟨hc, rfl, rfl⟩ := h_2
  obtain ⟨hxe, hx⟩ := idx_of hc (by have := hI.1.nl5; omega)
  have h5 := hI.1.nl5
  have hln := hI.1.ln hx
  refine V.cv (pc := 5) hB cw_X5_iceByHalves wm_X9_118 wi_X5_iceByHalves ws_X5_iceByHalves dX9_iceThicknessByHalves_5 (c_X5_iceByHalves hG (by omega) (by omega) hln) (hp_at (ca_Lake (by omega) (by omega) _)) fk_Lake rfl (by omega) (by decide) rfl (by exact Nat.le_of_ble_eq_true rfl) (by omega) (by omega) kN (kI (fun v_5 m_5 sz h_5 => ?_)) rfl
  obtain ⟨rfl, rfl⟩ := h_5
  refine V.retI (pc := 8) hB dX9_iceThicknessByHalves_8 rfl (rfl) (by omega) (by omega) ?_
  exact ⟨hc, rfl, rfl⟩

set_option maxRecDepth 100000 in
set_option maxHeartbeats 4000000 in
theorem c_X9_lakeWithLayer {g : xG} (hG : GK g) {m : Mem} (hI : CI m) {x y : Int32} : CC g yX9_lakeWithLayer (.code yX9_lakeWithLayer cX9_lakeWithLayer 4 (some (.object "IceBells$Lake"))) 3 2 12 [.ref (ad g 0), .int x, .int y] m (rR g (fun a m2 => inY m x y ∧ a = LK 0 x.toNatClampNeg ∧ m2 = m)) (fun E m2 => E = "java/lang/IndexOutOfBoundsException" ∧ ¬ inY m x y ∧ m2 = m) := by
  refine CC.mkX hG RX9 rfl (by decide +kernel) rfl (Nat.le_of_ble_eq_true rfl) (fun sz B hB hX hS => ?_)
  show V g B 0 0 _ (hp g m) sz 0 [some (.ref (ad g 0)), some (.int x), some (.int y), none] []
  refine V.aload_n (pc := 0) hB dX9_lakeWithLayer_0 rfl ?_
  refine V.iload_n (pc := 1) hB dX9_lakeWithLayer_1 rfl ?_
  refine V.cv (pc := 2) hB cw_X9_lakeNumbered wm_X9_89 wi_X9_lakeNumbered ws_X9_lakeNumbered dX9_lakeWithLayer_2 (c_X9_lakeNumbered hG hI) (hp_at (ca_Bells _)) fk_Bells rfl (by omega) (by decide) rfl (by exact Nat.le_of_ble_eq_true rfl) (by omega) (by omega) (fun E m2 sz hx => VX.outM hB hX (by omega) (by omega) ⟨hx.1, fun z => hx.2.1 z.1, hx.2.2⟩) (kR (fun v_2 m_2 sz h_2 => ?_)) rfl
  obtain ⟨hc, rfl, rfl⟩ := h_2
  obtain ⟨hxe, hx⟩ := idx_of hc (by have := hI.1.nl5; omega)
  have h5 := hI.1.nl5
  have hln := hI.1.ln hx
  refine V.astore_n (pc := 5) hB dX9_lakeWithLayer_5 (by decide) rfl ?_
  refine V.aload_n (pc := 6) hB dX9_lakeWithLayer_6 rfl ?_
  refine V.iload_n (pc := 7) hB dX9_lakeWithLayer_7 rfl ?_
  refine V.cv (pc := 8) hB cw_X5_hasLayer wm_X9_354 wi_X5_hasLayer ws_X5_hasLayer dX9_lakeWithLayer_8 (c_X5_hasLayer hG (by omega) (by omega) hln) (hp_at (ca_Lake (by omega) (by omega) _)) fk_Lake rfl (by omega) (by decide) rfl (by exact Nat.le_of_ble_eq_true rfl) (by omega) (by omega) kN (kI (fun v_8 m_8 sz h_8 => ?_)) rfl
  obtain ⟨rfl, rfl⟩ := h_8
  refine V.if_ne (pc := 11) (tgt := 25) hB dX9_lakeWithLayer_11 (by decide) (fun c_11 => ?_) (fun c_11 => ?_)
  · have hy : inY m_8 x y := ⟨hc, Decidable.byContradiction (fun z => c_11 (if_neg z))⟩
    refine V.aload_n (pc := 25) hB dX9_lakeWithLayer_25 rfl ?_
    refine V.retR (pc := 26) hB dX9_lakeWithLayer_26 rfl (Or.inl ⟨_, rfl⟩) (by omega) (by omega) ?_
    exact ⟨hy, rfl, rfl⟩
  · have hy : ¬ inY m_8 x y := fun z => by rw [if_pos z.2] at c_11; exact absurd c_11 (by decide)
    refine V.throwSW (pc := 14) hB hX hS tw_315_357 dX9_lakeWithLayer_14 dX9_lakeWithLayer_17 dX9_lakeWithLayer_18 dX9_lakeWithLayer_21 dX9_lakeWithLayer_24 (by omega) (by exact Nat.le_of_ble_eq_true rfl) (by omega) (by omega) (fun _ => ⟨_, rfl, ?_⟩)
    exact ⟨rfl, hy, rfl⟩

set_option maxRecDepth 100000 in
set_option maxHeartbeats 4000000 in
theorem c_X9_thickness {g : xG} (hG : GK g) {m : Mem} (hI : CI m) {x y : Int32} : CC g yX9_thickness (.code yX9_thickness cX9_thickness 3 (some .int)) 4 2 12 [.ref (ad g 0), .int x, .int y] m (rI (fun v m2 => inY m x y ∧ v = m.1 (LK 0 x.toNatClampNeg + 1) y.toNatClampNeg ∧ m2 = m)) (fun E m2 => E = "java/lang/IndexOutOfBoundsException" ∧ ¬ inY m x y ∧ m2 = m) := by
  refine CC.mk hG RX9 rfl (by decide +kernel) rfl (Nat.le_of_ble_eq_true rfl) (fun sz B hB hX => ?_)
  show V g B 0 0 _ (hp g m) sz 0 [some (.ref (ad g 0)), some (.int x), some (.int y)] []
  refine V.aload_n (pc := 0) hB dX9_thickness_0 rfl ?_
  refine V.iload_n (pc := 1) hB dX9_thickness_1 rfl ?_
  refine V.iload_n (pc := 2) hB dX9_thickness_2 rfl ?_
  refine V.cv (pc := 3) hB cw_X9_lakeWithLayer wm_X9_101 wi_X9_lakeWithLayer ws_X9_lakeWithLayer dX9_thickness_3 (c_X9_lakeWithLayer hG hI) (hp_at (ca_Bells _)) fk_Bells rfl (by omega) (by decide) rfl (by exact Nat.le_of_ble_eq_true rfl) (by omega) (by omega) (fun E m2 sz hx => VX.outM hB hX (by omega) (by omega) hx) (kR (fun v_3 m_3 sz h_3 => ?_)) rfl
  obtain ⟨hy, rfl, rfl⟩ := h_3
  have hx := (idx_of hy.1 (by have := hI.1.nl5; omega)).2
  have h5 := hI.1.nl5
  have hln := hI.1.ln hx
  refine V.get (pc := 6) hB fk_Lake 0 wf_X9_105 dX9_thickness_6 (by decide) (hp_at (ca_Lake (by omega) (by omega) _)) rfl ?_
  refine V.iload_n (pc := 9) hB dX9_thickness_9 rfl ?_
  refine V.ialdM (pc := 10) hB (ca_LThick (by omega) (by omega)) dX9_thickness_10 (ix_of hy.2.1 hy.2.2 (by have := hln.2; omega) hln.2) ?_
  refine V.retI (pc := 11) hB dX9_thickness_11 rfl (rfl) (by omega) (by omega) ?_
  exact ⟨hy, rfl, rfl⟩

set_option maxRecDepth 100000 in
set_option maxHeartbeats 4000000 in
theorem c_X9_temperature {g : xG} (hG : GK g) {m : Mem} (hI : CI m) {x y : Int32} : CC g yX9_temperature (.code yX9_temperature cX9_temperature 3 (some .int)) 4 2 12 [.ref (ad g 0), .int x, .int y] m (rI (fun v m2 => inY m x y ∧ v = m.1 (LK 0 x.toNatClampNeg + 2) y.toNatClampNeg ∧ m2 = m)) (fun E m2 => E = "java/lang/IndexOutOfBoundsException" ∧ ¬ inY m x y ∧ m2 = m) := by
  refine CC.mk hG RX9 rfl (by decide +kernel) rfl (Nat.le_of_ble_eq_true rfl) (fun sz B hB hX => ?_)
  show V g B 0 0 _ (hp g m) sz 0 [some (.ref (ad g 0)), some (.int x), some (.int y)] []
  refine V.aload_n (pc := 0) hB dX9_temperature_0 rfl ?_
  refine V.iload_n (pc := 1) hB dX9_temperature_1 rfl ?_
  refine V.iload_n (pc := 2) hB dX9_temperature_2 rfl ?_
  refine V.cv (pc := 3) hB cw_X9_lakeWithLayer wm_X9_101 wi_X9_lakeWithLayer ws_X9_lakeWithLayer dX9_temperature_3 (c_X9_lakeWithLayer hG hI) (hp_at (ca_Bells _)) fk_Bells rfl (by omega) (by decide) rfl (by exact Nat.le_of_ble_eq_true rfl) (by omega) (by omega) (fun E m2 sz hx => VX.outM hB hX (by omega) (by omega) hx) (kR (fun v_3 m_3 sz h_3 => ?_)) rfl
  obtain ⟨hy, rfl, rfl⟩ := h_3
  have hx := (idx_of hy.1 (by have := hI.1.nl5; omega)).2
  have h5 := hI.1.nl5
  have hln := hI.1.ln hx
  refine V.get (pc := 6) hB fk_Lake 1 wf_X9_108 dX9_temperature_6 (by decide) (hp_at (ca_Lake (by omega) (by omega) _)) rfl ?_
  refine V.iload_n (pc := 9) hB dX9_temperature_9 rfl ?_
  refine V.ialdM (pc := 10) hB (ca_LTemp (by omega) (by omega)) dX9_temperature_10 (ix_of hy.2.1 hy.2.2 (by have := hln.2; omega) hln.2) ?_
  refine V.retI (pc := 11) hB dX9_temperature_11 rfl (rfl) (by omega) (by omega) ?_
  exact ⟨hy, rfl, rfl⟩

set_option maxRecDepth 100000 in
set_option maxHeartbeats 4000000 in
theorem c_X9_strain {g : xG} (hG : GK g) {m : Mem} (hI : CI m) {x y : Int32} : CC g yX9_strain (.code yX9_strain cX9_strain 3 (some .int)) 4 2 12 [.ref (ad g 0), .int x, .int y] m (rI (fun v m2 => inY m x y ∧ v = m.1 (LK 0 x.toNatClampNeg + 3) y.toNatClampNeg ∧ m2 = m)) (fun E m2 => E = "java/lang/IndexOutOfBoundsException" ∧ ¬ inY m x y ∧ m2 = m) := by
  refine CC.mk hG RX9 rfl (by decide +kernel) rfl (Nat.le_of_ble_eq_true rfl) (fun sz B hB hX => ?_)
  show V g B 0 0 _ (hp g m) sz 0 [some (.ref (ad g 0)), some (.int x), some (.int y)] []
  refine V.aload_n (pc := 0) hB dX9_strain_0 rfl ?_
  refine V.iload_n (pc := 1) hB dX9_strain_1 rfl ?_
  refine V.iload_n (pc := 2) hB dX9_strain_2 rfl ?_
  refine V.cv (pc := 3) hB cw_X9_lakeWithLayer wm_X9_101 wi_X9_lakeWithLayer ws_X9_lakeWithLayer dX9_strain_3 (c_X9_lakeWithLayer hG hI) (hp_at (ca_Bells _)) fk_Bells rfl (by omega) (by decide) rfl (by exact Nat.le_of_ble_eq_true rfl) (by omega) (by omega) (fun E m2 sz hx => VX.outM hB hX (by omega) (by omega) hx) (kR (fun v_3 m_3 sz h_3 => ?_)) rfl
  obtain ⟨hy, rfl, rfl⟩ := h_3
  have hx := (idx_of hy.1 (by have := hI.1.nl5; omega)).2
  have h5 := hI.1.nl5
  have hln := hI.1.ln hx
  refine V.get (pc := 6) hB fk_Lake 2 wf_X9_111 dX9_strain_6 (by decide) (hp_at (ca_Lake (by omega) (by omega) _)) rfl ?_
  refine V.iload_n (pc := 9) hB dX9_strain_9 rfl ?_
  refine V.ialdM (pc := 10) hB (ca_LStrain (by omega) (by omega)) dX9_strain_10 (ix_of hy.2.1 hy.2.2 (by have := hln.2; omega) hln.2) ?_
  refine V.retI (pc := 11) hB dX9_strain_11 rfl (rfl) (by omega) (by omega) ?_
  exact ⟨hy, rfl, rfl⟩

set_option maxRecDepth 100000 in
set_option maxHeartbeats 4000000 in
theorem c_X9_layerAt {g : xG} (hG : GK g) {m : Mem} (hI : CI m) {x z : Int32} : CC g yX9_layerAt (.code yX9_layerAt cX9_layerAt 4 (some .int)) 3 2 12 [.ref (ad g 0), .int x, .int z] m (rI (fun v m2 => inL m x ∧ v = lcV (m.1 (LK 0 x.toNatClampNeg + 1)) z (nLy m 0 x.toNatClampNeg) ∧ ¬ v = -1 ∧ m2 = m)) (fun E m2 => ((E = "java/lang/IndexOutOfBoundsException" ∧ ¬ inL m x) ∨ (E = "java/util/NoSuchElementException" ∧ inL m x ∧ lcV (m.1 (LK 0 x.toNatClampNeg + 1)) z (nLy m 0 x.toNatClampNeg) = -1)) ∧ m2 = m) := by
  refine CC.mkX hG RX9 rfl (by decide +kernel) rfl (Nat.le_of_ble_eq_true rfl) (fun sz B hB hX hS => ?_)
  show V g B 0 0 _ (hp g m) sz 0 [some (.ref (ad g 0)), some (.int x), some (.int z), none] []
  refine V.aload_n (pc := 0) hB dX9_layerAt_0 rfl ?_
  refine V.iload_n (pc := 1) hB dX9_layerAt_1 rfl ?_
  refine V.cv (pc := 2) hB cw_X9_lakeNumbered wm_X9_89 wi_X9_lakeNumbered ws_X9_lakeNumbered dX9_layerAt_2 (c_X9_lakeNumbered hG hI) (hp_at (ca_Bells _)) fk_Bells rfl (by omega) (by decide) rfl (by exact Nat.le_of_ble_eq_true rfl) (by omega) (by omega) (fun E m2 sz hx => VX.outM hB hX (by omega) (by omega) ⟨Or.inl ⟨hx.1, hx.2.1⟩, hx.2.2⟩) (kR (fun v_2 m_2 sz h_2 => ?_)) rfl
  obtain ⟨hc, rfl, rfl⟩ := h_2
  obtain ⟨hxe, hx⟩ := idx_of hc (by have := hI.1.nl5; omega)
  have h5 := hI.1.nl5
  have hln := hI.1.ln hx
  refine V.iload_n (pc := 5) hB dX9_layerAt_5 rfl ?_
  refine V.cv (pc := 6) hB cw_X5_layerContaining wm_X9_121 wi_X5_layerContaining ws_X5_layerContaining dX9_layerAt_6 (c_X5_layerContaining hG (by omega) (by omega) hln) (hp_at (ca_Lake (by omega) (by omega) _)) fk_Lake rfl (by omega) (by decide) rfl (by exact Nat.le_of_ble_eq_true rfl) (by omega) (by omega) kN (kI (fun v_6 m_6 sz h_6 => ?_)) rfl
  obtain ⟨rfl, rfl⟩ := h_6
  refine V.istore_n (pc := 9) hB dX9_layerAt_9 (by decide) rfl ?_
  refine V.iload_n (pc := 10) hB dX9_layerAt_10 rfl ?_
  refine V.iconst (pc := 11) (v := (-1)) hB dX9_layerAt_11 rfl ?_
  refine V.icmp_ne (pc := 12) (tgt := 25) hB dX9_layerAt_12 (by decide) (fun c_12 => ?_) (fun c_12 => ?_)
  · refine V.iload_n (pc := 25) hB dX9_layerAt_25 rfl ?_
    refine V.retI (pc := 26) hB dX9_layerAt_26 rfl (rfl) (by omega) (by omega) ?_
    exact ⟨hc, rfl, c_12, rfl⟩
  · refine V.throwX (pc := 15) hB hX hS rx_0 rx_1 rx_2 rx_5 tw_124_126 dX9_layerAt_15 dX9_layerAt_18 dX9_layerAt_19 dX9_layerAt_21 dX9_layerAt_24 (by omega) (by exact Nat.le_of_ble_eq_true rfl) (by omega) (by omega) (fun _ => ⟨_, rfl, ?_⟩)
    exact ⟨Or.inr ⟨rfl, hc, c_12⟩, rfl⟩

set_option maxRecDepth 100000 in
set_option maxHeartbeats 4000000 in
theorem c_X9_lakeCount {g : xG} (hG : GK g) {m : Mem} : CC g yX9_lakeCount (.code yX9_lakeCount cX9_lakeCount 1 (some .int)) 1 0 0 [.ref (ad g 0)] m (rI (fun v m2 => v = m.1 (LA 0) 1 ∧ m2 = m)) noX := by
  refine CC.mk hG RX9 rfl (by decide +kernel) rfl (Nat.le_of_ble_eq_true rfl) (fun sz B hB hX => ?_)
  show V g B 0 0 _ (hp g m) sz 0 [some (.ref (ad g 0))] []
  refine V.aload_n (pc := 0) hB dX9_lakeCount_0 rfl ?_
  refine V.get (pc := 1) hB fk_Bells 0 wf_X9_12 dX9_lakeCount_1 (by decide) (hp_at (ca_Bells _)) rfl ?_
  refine V.get (pc := 4) hB fk_Land 1 wf_X9_86 dX9_lakeCount_4 (by decide) (hp_at (ca_Land (by omega) _)) rfl ?_
  refine V.retI (pc := 7) hB dX9_lakeCount_7 rfl (rfl) (by omega) (by omega) ?_
  exact ⟨rfl, rfl⟩

set_option maxRecDepth 100000 in
set_option maxHeartbeats 4000000 in
theorem c_X9_air {g : xG} (hG : GK g) {m : Mem} : CC g yX9_air (.code yX9_air cX9_air 1 (some .int)) 1 0 0 [.ref (ad g 0)] m (rI (fun v m2 => v = m.1 (LA 0) 2 ∧ m2 = m)) noX := by
  refine CC.mk hG RX9 rfl (by decide +kernel) rfl (Nat.le_of_ble_eq_true rfl) (fun sz B hB hX => ?_)
  show V g B 0 0 _ (hp g m) sz 0 [some (.ref (ad g 0))] []
  refine V.aload_n (pc := 0) hB dX9_air_0 rfl ?_
  refine V.get (pc := 1) hB fk_Bells 0 wf_X9_12 dX9_air_1 (by decide) (hp_at (ca_Bells _)) rfl ?_
  refine V.get (pc := 4) hB fk_Land 2 wf_X9_137 dX9_air_4 (by decide) (hp_at (ca_Land (by omega) _)) rfl ?_
  refine V.retI (pc := 7) hB dX9_air_7 rfl (rfl) (by omega) (by omega) ?_
  exact ⟨rfl, rfl⟩

set_option maxRecDepth 100000 in
set_option maxHeartbeats 4000000 in
theorem c_X9_hour {g : xG} (hG : GK g) {m : Mem} : CC g yX9_hour (.code yX9_hour cX9_hour 1 (some .int)) 1 0 0 [.ref (ad g 0)] m (rI (fun v m2 => v = m.1 (LA 0) 3 ∧ m2 = m)) noX := by
  refine CC.mk hG RX9 rfl (by decide +kernel) rfl (Nat.le_of_ble_eq_true rfl) (fun sz B hB hX => ?_)
  show V g B 0 0 _ (hp g m) sz 0 [some (.ref (ad g 0))] []
  refine V.aload_n (pc := 0) hB dX9_hour_0 rfl ?_
  refine V.get (pc := 1) hB fk_Bells 0 wf_X9_12 dX9_hour_1 (by decide) (hp_at (ca_Bells _)) rfl ?_
  refine V.get (pc := 4) hB fk_Land 3 wf_X9_146 dX9_hour_4 (by decide) (hp_at (ca_Land (by omega) _)) rfl ?_
  refine V.retI (pc := 7) hB dX9_hour_7 rfl (rfl) (by omega) (by omega) ?_
  exact ⟨rfl, rfl⟩

set_option maxRecDepth 100000 in
set_option maxHeartbeats 4000000 in
theorem c_X9_frozenTotal {g : xG} (hG : GK g) {m : Mem} : CC g yX9_frozenTotal (.code yX9_frozenTotal cX9_frozenTotal 1 (some .int)) 1 0 0 [.ref (ad g 0)] m (rI (fun v m2 => v = m.1 (LA 0) 4 ∧ m2 = m)) noX := by
  refine CC.mk hG RX9 rfl (by decide +kernel) rfl (Nat.le_of_ble_eq_true rfl) (fun sz B hB hX => ?_)
  show V g B 0 0 _ (hp g m) sz 0 [some (.ref (ad g 0))] []
  refine V.aload_n (pc := 0) hB dX9_frozenTotal_0 rfl ?_
  refine V.get (pc := 1) hB fk_Bells 0 wf_X9_12 dX9_frozenTotal_1 (by decide) (hp_at (ca_Bells _)) rfl ?_
  refine V.get (pc := 4) hB fk_Land 4 wf_X9_245 dX9_frozenTotal_4 (by decide) (hp_at (ca_Land (by omega) _)) rfl ?_
  refine V.retI (pc := 7) hB dX9_frozenTotal_7 rfl (rfl) (by omega) (by omega) ?_
  exact ⟨rfl, rfl⟩

set_option maxRecDepth 100000 in
set_option maxHeartbeats 4000000 in
theorem c_X9_thawedTotal {g : xG} (hG : GK g) {m : Mem} : CC g yX9_thawedTotal (.code yX9_thawedTotal cX9_thawedTotal 1 (some .int)) 1 0 0 [.ref (ad g 0)] m (rI (fun v m2 => v = m.1 (LA 0) 5 ∧ m2 = m)) noX := by
  refine CC.mk hG RX9 rfl (by decide +kernel) rfl (Nat.le_of_ble_eq_true rfl) (fun sz B hB hX => ?_)
  show V g B 0 0 _ (hp g m) sz 0 [some (.ref (ad g 0))] []
  refine V.aload_n (pc := 0) hB dX9_thawedTotal_0 rfl ?_
  refine V.get (pc := 1) hB fk_Bells 0 wf_X9_12 dX9_thawedTotal_1 (by decide) (hp_at (ca_Bells _)) rfl ?_
  refine V.get (pc := 4) hB fk_Land 5 wf_X9_248 dX9_thawedTotal_4 (by decide) (hp_at (ca_Land (by omega) _)) rfl ?_
  refine V.retI (pc := 7) hB dX9_thawedTotal_7 rfl (rfl) (by omega) (by omega) ?_
  exact ⟨rfl, rfl⟩

set_option maxRecDepth 100000 in
set_option maxHeartbeats 4000000 in
theorem c_X9_windowCount {g : xG} (hG : GK g) {m : Mem} : CC g yX9_windowCount (.code yX9_windowCount cX9_windowCount 1 (some .int)) 1 0 0 [.ref (ad g 0)] m (rI (fun v m2 => v = m.1 (LA 0 + 2) 2 ∧ m2 = m)) noX := by
  refine CC.mk hG RX9 rfl (by decide +kernel) rfl (Nat.le_of_ble_eq_true rfl) (fun sz B hB hX => ?_)
  show V g B 0 0 _ (hp g m) sz 0 [some (.ref (ad g 0))] []
  refine V.aload_n (pc := 0) hB dX9_windowCount_0 rfl ?_
  refine V.get (pc := 1) hB fk_Bells 0 wf_X9_12 dX9_windowCount_1 (by decide) (hp_at (ca_Bells _)) rfl ?_
  refine V.get (pc := 4) hB fk_Land 6 wf_X9_167 dX9_windowCount_4 (by decide) (hp_at (ca_Land (by omega) _)) rfl ?_
  refine V.get (pc := 7) hB fk_Win 2 wf_X9_183 dX9_windowCount_7 (by decide) (hp_at (ca_Win (by omega) _)) rfl ?_
  refine V.retI (pc := 10) hB dX9_windowCount_10 rfl (rfl) (by omega) (by omega) ?_
  exact ⟨rfl, rfl⟩

set_option maxRecDepth 100000 in
set_option maxHeartbeats 4000000 in
theorem c_X9_pealCount {g : xG} (hG : GK g) {m : Mem} : CC g yX9_pealCount (.code yX9_pealCount cX9_pealCount 1 (some .int)) 1 0 0 [.ref (ad g 0)] m (rI (fun v m2 => v = m.1 (LA 0 + 5) 4 ∧ m2 = m)) noX := by
  refine CC.mk hG RX9 rfl (by decide +kernel) rfl (Nat.le_of_ble_eq_true rfl) (fun sz B hB hX => ?_)
  show V g B 0 0 _ (hp g m) sz 0 [some (.ref (ad g 0))] []
  refine V.aload_n (pc := 0) hB dX9_pealCount_0 rfl ?_
  refine V.get (pc := 1) hB fk_Bells 0 wf_X9_12 dX9_pealCount_1 (by decide) (hp_at (ca_Bells _)) rfl ?_
  refine V.get (pc := 4) hB fk_Land 7 wf_X9_205 dX9_pealCount_4 (by decide) (hp_at (ca_Land (by omega) _)) rfl ?_
  refine V.get (pc := 7) hB fk_Peal 4 wf_X9_209 dX9_pealCount_7 (by decide) (hp_at (ca_Peal (by omega) _)) rfl ?_
  refine V.retI (pc := 10) hB dX9_pealCount_10 rfl (rfl) (by omega) (by omega) ?_
  exact ⟨rfl, rfl⟩

set_option maxRecDepth 100000 in
set_option maxHeartbeats 4000000 in
theorem c_X9_isInWindow {g : xG} (hG : GK g) {m : Mem} (hI : CI m) {x : Int32} : CC g yX9_isInWindow (.code yX9_isInWindow cX9_isInWindow 2 (some .boolean)) 3 0 0 [.ref (ad g 0), .int x] m (rI (fun v m2 => v = (if meetB (m.1 (LA 0 + 3)) (m.1 (LA 0 + 4)) x x (nWn m 0) = true then 1 else 0) ∧ m2 = m)) noX := by
  refine CC.mk hG RX9 rfl (by decide +kernel) rfl (Nat.le_of_ble_eq_true rfl) (fun sz B hB hX => ?_)
  show V g B 0 0 _ (hp g m) sz 0 [some (.ref (ad g 0)), some (.int x)] []
  refine V.aload_n (pc := 0) hB dX9_isInWindow_0 rfl ?_
  refine V.get (pc := 1) hB fk_Bells 0 wf_X9_12 dX9_isInWindow_1 (by decide) (hp_at (ca_Bells _)) rfl ?_
  refine V.get (pc := 4) hB fk_Land 6 wf_X9_167 dX9_isInWindow_4 (by decide) (hp_at (ca_Land (by omega) _)) rfl ?_
  refine V.iload_n (pc := 7) hB dX9_isInWindow_7 rfl ?_
  refine V.cv (pc := 8) hB cw_X8_contain wm_X9_192 wi_X8_contain ws_X8_contain dX9_isInWindow_8 (c_X8_contain hG (by omega) hI.1.wr) (hp_at (ca_Win (by omega) _)) fk_Win rfl (by omega) (by decide) rfl (by exact Nat.le_of_ble_eq_true rfl) (by omega) (by omega) kN (kI (fun v_8 m_8 sz h_8 => ?_)) rfl
  obtain ⟨rfl, rfl⟩ := h_8
  refine V.retI (pc := 11) hB dX9_isInWindow_11 rfl (by split <;> rfl) (by omega) (by omega) ?_
  exact ⟨rfl, rfl⟩

set_option maxRecDepth 100000 in
set_option maxHeartbeats 4000000 in
theorem c_X9_crackTotal {g : xG} (hG : GK g) {m : Mem} (hI : CI m) : CC g yX9_crackTotal (.code yX9_crackTotal cX9_crackTotal 1 (some .int)) 2 0 0 [.ref (ad g 0)] m (rI (fun v m2 => v = l_sum (fun j => m.1 (LK 0 j) 5) (nLk m 0) ∧ m2 = m)) noX := by
  refine CC.mk hG RX9 rfl (by decide +kernel) rfl (Nat.le_of_ble_eq_true rfl) (fun sz B hB hX => ?_)
  show V g B 0 0 _ (hp g m) sz 0 [some (.ref (ad g 0))] []
  refine V.aload_n (pc := 0) hB dX9_crackTotal_0 rfl ?_
  refine V.get (pc := 1) hB fk_Bells 0 wf_X9_12 dX9_crackTotal_1 (by decide) (hp_at (ca_Bells _)) rfl ?_
  refine V.cv (pc := 4) hB cw_X6_allCracks wm_X9_251 wi_X6_allCracks ws_X6_allCracks dX9_crackTotal_4 (c_X6_allCracks hG (by omega) hI.1) (hp_at (ca_Land (by omega) _)) fk_Land rfl (by omega) (by decide) rfl (by exact Nat.le_of_ble_eq_true rfl) (by omega) (by omega) kN (kI (fun v_4 m_4 sz h_4 => ?_)) rfl
  obtain ⟨rfl, rfl⟩ := h_4
  refine V.retI (pc := 7) hB dX9_crackTotal_7 rfl (rfl) (by omega) (by omega) ?_
  exact ⟨rfl, rfl⟩

set_option maxRecDepth 100000 in
set_option maxHeartbeats 4000000 in
theorem c_X9_echoPairs {g : xG} (hG : GK g) {m : Mem} (hI : CI m) : CC g yX9_echoPairs (.code yX9_echoPairs cX9_echoPairs 1 (some .int)) 2 0 0 [.ref (ad g 0)] m (rI (fun v m2 => v = nI (pairsN (m.1 (LA 0 + 8)) (cOf m 0) (cOf m 0)) ∧ m2 = m)) noX := by
  refine CC.mk hG RX9 rfl (by decide +kernel) rfl (Nat.le_of_ble_eq_true rfl) (fun sz B hB hX => ?_)
  show V g B 0 0 _ (hp g m) sz 0 [some (.ref (ad g 0))] []
  refine V.aload_n (pc := 0) hB dX9_echoPairs_0 rfl ?_
  refine V.get (pc := 1) hB fk_Bells 0 wf_X9_12 dX9_echoPairs_1 (by decide) (hp_at (ca_Bells _)) rfl ?_
  refine V.get (pc := 4) hB fk_Land 7 wf_X9_205 dX9_echoPairs_4 (by decide) (hp_at (ca_Land (by omega) _)) rfl ?_
  refine V.cv (pc := 7) hB cw_X7_pairsByComparing wm_X9_227 wi_X7_pairsByComparing ws_X7_pairsByComparing dX9_echoPairs_7 (c_X7_pairsByComparing hG (by omega) hI.1.pr) (hp_at (ca_Peal (by omega) _)) fk_Peal rfl (by omega) (by decide) rfl (by exact Nat.le_of_ble_eq_true rfl) (by omega) (by omega) kN (kI (fun v_7 m_7 sz h_7 => ?_)) rfl
  obtain ⟨rfl, rfl⟩ := h_7
  refine V.retI (pc := 10) hB dX9_echoPairs_10 rfl (rfl) (by omega) (by omega) ?_
  exact ⟨rfl, rfl⟩

set_option maxRecDepth 100000 in
set_option maxHeartbeats 4000000 in
theorem c_X9_echoPairsByPitch {g : xG} (hG : GK g) {m : Mem} (hI : CI m) : CC g yX9_echoPairsByPitch (.code yX9_echoPairsByPitch cX9_echoPairsByPitch 1 (some .int)) 3 0 0 [.ref (ad g 0)] m (rI (fun v m2 => v = l_sum (fun p => nI (cntEq (m.1 (LA 0 + 8)) (nI p) (cOf m 0)) * (nI (cntEq (m.1 (LA 0 + 8)) (nI p) (cOf m 0)) - 1) / 2) 141 ∧ m2 = setRow m 362 (tallyRow (m.1 (LA 0 + 8)) (m.1 362) (cOf m 0)))) noX := by
  refine CC.mk hG RX9 rfl (by decide +kernel) rfl (Nat.le_of_ble_eq_true rfl) (fun sz B hB hX => ?_)
  show V g B 0 0 _ (hp g m) sz 0 [some (.ref (ad g 0))] []
  refine V.aload_n (pc := 0) hB dX9_echoPairsByPitch_0 rfl ?_
  refine V.get (pc := 1) hB fk_Bells 0 wf_X9_12 dX9_echoPairsByPitch_1 (by decide) (hp_at (ca_Bells _)) rfl ?_
  refine V.get (pc := 4) hB fk_Land 7 wf_X9_205 dX9_echoPairsByPitch_4 (by decide) (hp_at (ca_Land (by omega) _)) rfl ?_
  refine V.aload_n (pc := 7) hB dX9_echoPairsByPitch_7 rfl ?_
  refine V.get (pc := 8) hB fk_Bells 10 wf_X9_58 dX9_echoPairsByPitch_8 (by decide) (hp_at (ca_Bells _)) rfl ?_
  refine V.cv (pc := 11) hB cw_X7_pairsByCounting wm_X9_230 wi_X7_pairsByCounting ws_X7_pairsByCounting dX9_echoPairsByPitch_11 (c_X7_pairsByCounting hG (by omega) hI.1.pr) (hp_at (ca_Peal (by omega) _)) fk_Peal rfl (by omega) (by decide) rfl (by exact Nat.le_of_ble_eq_true rfl) (by omega) (by omega) kN (kI (fun v_11 m_11 sz h_11 => ?_)) rfl
  obtain ⟨rfl, rfl⟩ := h_11
  refine V.retI (pc := 14) hB dX9_echoPairsByPitch_14 rfl (rfl) (by omega) (by omega) ?_
  exact ⟨rfl, rfl⟩

set_option maxRecDepth 100000 in
set_option maxHeartbeats 4000000 in
theorem c_X9_pitchCount {g : xG} (hG : GK g) {m : Mem} (hI : CI m) : CC g yX9_pitchCount (.code yX9_pitchCount cX9_pitchCount 1 (some .int)) 3 0 0 [.ref (ad g 0)] m (rI (fun v m2 => v = nI (cntPos (fun p => nI (cntEq (m.1 (LA 0 + 8)) (nI p) (cOf m 0))) 141) ∧ m2 = setRow m 362 (tallyRow (m.1 (LA 0 + 8)) (m.1 362) (cOf m 0)))) noX := by
  refine CC.mk hG RX9 rfl (by decide +kernel) rfl (Nat.le_of_ble_eq_true rfl) (fun sz B hB hX => ?_)
  show V g B 0 0 _ (hp g m) sz 0 [some (.ref (ad g 0))] []
  refine V.aload_n (pc := 0) hB dX9_pitchCount_0 rfl ?_
  refine V.get (pc := 1) hB fk_Bells 0 wf_X9_12 dX9_pitchCount_1 (by decide) (hp_at (ca_Bells _)) rfl ?_
  refine V.get (pc := 4) hB fk_Land 7 wf_X9_205 dX9_pitchCount_4 (by decide) (hp_at (ca_Land (by omega) _)) rfl ?_
  refine V.aload_n (pc := 7) hB dX9_pitchCount_7 rfl ?_
  refine V.get (pc := 8) hB fk_Bells 10 wf_X9_58 dX9_pitchCount_8 (by decide) (hp_at (ca_Bells _)) rfl ?_
  refine V.cv (pc := 11) hB cw_X7_differentPitches wm_X9_234 wi_X7_differentPitches ws_X7_differentPitches dX9_pitchCount_11 (c_X7_differentPitches hG (by omega) hI.1.pr) (hp_at (ca_Peal (by omega) _)) fk_Peal rfl (by omega) (by decide) rfl (by exact Nat.le_of_ble_eq_true rfl) (by omega) (by omega) kN (kI (fun v_11 m_11 sz h_11 => ?_)) rfl
  obtain ⟨rfl, rfl⟩ := h_11
  refine V.retI (pc := 14) hB dX9_pitchCount_14 rfl (rfl) (by omega) (by omega) ?_
  exact ⟨rfl, rfl⟩

set_option maxRecDepth 100000 in
set_option maxHeartbeats 4000000 in
theorem c_X9_pealSlot {g : xG} (hG : GK g) {m : Mem} (hI : CI m) {r : Int32} : CC g yX9_pealSlot (.code yX9_pealSlot cX9_pealSlot 2 (some .int)) 3 1 6 [.ref (ad g 0), .int r] m (rI (fun v m2 => inP m r ∧ v = nI ((wOf m 0 + 15 - r.toNatClampNeg) % 16) ∧ m2 = m)) (fun E m2 => E = "java/util/NoSuchElementException" ∧ ¬ inP m r ∧ m2 = m) := by
  refine CC.mkX hG RX9 rfl (by decide +kernel) rfl (Nat.le_of_ble_eq_true rfl) (fun sz B hB hX hS => ?_)
  show V g B 0 0 _ (hp g m) sz 0 [some (.ref (ad g 0)), some (.int r)] []
  refine V.iload_n (pc := 0) hB dX9_pealSlot_0 rfl ?_
  refine V.if_lt (pc := 1) (tgt := 18) hB dX9_pealSlot_1 (by decide) (fun c_1 => ?_) (fun c_1 => ?_)
  · refine V.throwXW (pc := 18) hB hX hS rx_0 rx_1 rx_2 rx_5 tw_124_359 dX9_pealSlot_18 dX9_pealSlot_21 dX9_pealSlot_22 dX9_pealSlot_25 dX9_pealSlot_28 (by omega) (by exact Nat.le_of_ble_eq_true rfl) (by omega) (by omega) (fun _ => ⟨_, rfl, ?_⟩)
    first
    | exact ⟨rfl, fun z => absurd c_1 (Int32.not_lt.mpr z.1), rfl⟩
    | exact ⟨rfl, fun z => c_15 (by rw [hI.1.pr.2.2.1]; exact z.2), rfl⟩
  · refine V.iload_n (pc := 4) hB dX9_pealSlot_4 rfl ?_
    refine V.aload_n (pc := 5) hB dX9_pealSlot_5 rfl ?_
    refine V.get (pc := 6) hB fk_Bells 0 wf_X9_12 dX9_pealSlot_6 (by decide) (hp_at (ca_Bells _)) rfl ?_
    refine V.get (pc := 9) hB fk_Land 7 wf_X9_205 dX9_pealSlot_9 (by decide) (hp_at (ca_Land (by omega) _)) rfl ?_
    refine V.get (pc := 12) hB fk_Peal 4 wf_X9_209 dX9_pealSlot_12 (by decide) (hp_at (ca_Peal (by omega) _)) rfl ?_
    refine V.icmp_lt (pc := 15) (tgt := 29) hB dX9_pealSlot_15 (by decide) (fun c_15 => ?_) (fun c_15 => ?_)
    · have hr : inP m r := ⟨Int32.not_lt.mp c_1, by rw [hI.1.pr.2.2.1] at c_15; exact c_15⟩
      obtain ⟨q, hre, hrl, hrc⟩ := idx_j hr (by have := hI.1.pr.2.2.2; omega)
      subst hre
      have h16 := hI.1.pr.2.2.2
      refine V.aload_n (pc := 29) hB dX9_pealSlot_29 rfl ?_
      refine V.get (pc := 30) hB fk_Bells 0 wf_X9_12 dX9_pealSlot_30 (by decide) (hp_at (ca_Bells _)) rfl ?_
      refine V.get (pc := 33) hB fk_Land 7 wf_X9_205 dX9_pealSlot_33 (by decide) (hp_at (ca_Land (by omega) _)) rfl ?_
      refine V.iload_n (pc := 36) hB dX9_pealSlot_36 rfl ?_
      refine V.cv (pc := 37) hB cw_X7_slotOf wm_X9_361 wi_X7_slotOf ws_X7_slotOf dX9_pealSlot_37 (c_X7_slotOf hG (by omega) hI.1.pr (by omega)) (hp_at (ca_Peal (by omega) _)) fk_Peal rfl (by omega) (by decide) rfl (by exact Nat.le_of_ble_eq_true rfl) (by omega) (by omega) kN (kI (fun v_37 m_37 sz h_37 => ?_)) rfl
      obtain ⟨rfl, rfl⟩ := h_37
      refine V.retI (pc := 40) hB dX9_pealSlot_40 rfl (rfl) (by omega) (by omega) ?_
      exact ⟨hr, by rw [hrc], rfl⟩
    · refine V.throwXW (pc := 18) hB hX hS rx_0 rx_1 rx_2 rx_5 tw_124_359 dX9_pealSlot_18 dX9_pealSlot_21 dX9_pealSlot_22 dX9_pealSlot_25 dX9_pealSlot_28 (by omega) (by exact Nat.le_of_ble_eq_true rfl) (by omega) (by omega) (fun _ => ⟨_, rfl, ?_⟩)
      first
      | exact ⟨rfl, fun z => absurd c_1 (Int32.not_lt.mpr z.1), rfl⟩
      | exact ⟨rfl, fun z => c_15 (by rw [hI.1.pr.2.2.1]; exact z.2), rfl⟩

set_option maxRecDepth 100000 in
set_option maxHeartbeats 4000000 in
theorem c_X9_pealKind {g : xG} (hG : GK g) {m : Mem} (hI : CI m) {r : Int32} : CC g yX9_pealKind (.code yX9_pealKind cX9_pealKind 2 (some .char)) 4 1 6 [.ref (ad g 0), .int r] m (rI (fun v m2 => inP m r ∧ v = m.1 (LA 0 + 6) ((wOf m 0 + 15 - r.toNatClampNeg) % 16) ∧ m2 = m)) (fun E m2 => E = "java/util/NoSuchElementException" ∧ ¬ inP m r ∧ m2 = m) := by
  refine CC.mk hG RX9 rfl (by decide +kernel) rfl (Nat.le_of_ble_eq_true rfl) (fun sz B hB hX => ?_)
  show V g B 0 0 _ (hp g m) sz 0 [some (.ref (ad g 0)), some (.int r)] []
  refine V.aload_n (pc := 0) hB dX9_pealKind_0 rfl ?_
  refine V.get (pc := 1) hB fk_Bells 0 wf_X9_12 dX9_pealKind_1 (by decide) (hp_at (ca_Bells _)) rfl ?_
  refine V.get (pc := 4) hB fk_Land 7 wf_X9_205 dX9_pealKind_4 (by decide) (hp_at (ca_Land (by omega) _)) rfl ?_
  refine V.get (pc := 7) hB fk_Peal 0 wf_X9_212 dX9_pealKind_7 (by decide) (hp_at (ca_Peal (by omega) _)) rfl ?_
  refine V.aload_n (pc := 10) hB dX9_pealKind_10 rfl ?_
  refine V.iload_n (pc := 11) hB dX9_pealKind_11 rfl ?_
  refine V.cv (pc := 12) hB cw_X9_pealSlot wm_X9_216 wi_X9_pealSlot ws_X9_pealSlot dX9_pealKind_12 (c_X9_pealSlot hG hI) (hp_at (ca_Bells _)) fk_Bells rfl (by omega) (by decide) rfl (by exact Nat.le_of_ble_eq_true rfl) (by omega) (by omega) (fun E m2 sz hx => VX.outM hB hX (by omega) (by omega) hx) (kI (fun v_12 m_12 sz h_12 => ?_)) rfl
  obtain ⟨hr, rfl, rfl⟩ := h_12
  refine V.caldM (pc := 15) hB (ca_PKind (by omega)) dX9_pealKind_15 (ix_nI (by omega) (by decide)) ?_
  refine V.retI (pc := 16) hB dX9_pealKind_16 rfl (fits_nar (hI.1.kf _ (by omega))) (by omega) (by omega) ?_
  exact ⟨hr, rfl, rfl⟩

set_option maxRecDepth 100000 in
set_option maxHeartbeats 4000000 in
theorem c_X9_pealLake {g : xG} (hG : GK g) {m : Mem} (hI : CI m) {r : Int32} : CC g yX9_pealLake (.code yX9_pealLake cX9_pealLake 2 (some .int)) 4 1 6 [.ref (ad g 0), .int r] m (rI (fun v m2 => inP m r ∧ v = m.1 (LA 0 + 7) ((wOf m 0 + 15 - r.toNatClampNeg) % 16) ∧ m2 = m)) (fun E m2 => E = "java/util/NoSuchElementException" ∧ ¬ inP m r ∧ m2 = m) := by
  refine CC.mk hG RX9 rfl (by decide +kernel) rfl (Nat.le_of_ble_eq_true rfl) (fun sz B hB hX => ?_)
  show V g B 0 0 _ (hp g m) sz 0 [some (.ref (ad g 0)), some (.int r)] []
  refine V.aload_n (pc := 0) hB dX9_pealLake_0 rfl ?_
  refine V.get (pc := 1) hB fk_Bells 0 wf_X9_12 dX9_pealLake_1 (by decide) (hp_at (ca_Bells _)) rfl ?_
  refine V.get (pc := 4) hB fk_Land 7 wf_X9_205 dX9_pealLake_4 (by decide) (hp_at (ca_Land (by omega) _)) rfl ?_
  refine V.get (pc := 7) hB fk_Peal 1 wf_X9_219 dX9_pealLake_7 (by decide) (hp_at (ca_Peal (by omega) _)) rfl ?_
  refine V.aload_n (pc := 10) hB dX9_pealLake_10 rfl ?_
  refine V.iload_n (pc := 11) hB dX9_pealLake_11 rfl ?_
  refine V.cv (pc := 12) hB cw_X9_pealSlot wm_X9_216 wi_X9_pealSlot ws_X9_pealSlot dX9_pealLake_12 (c_X9_pealSlot hG hI) (hp_at (ca_Bells _)) fk_Bells rfl (by omega) (by decide) rfl (by exact Nat.le_of_ble_eq_true rfl) (by omega) (by omega) (fun E m2 sz hx => VX.outM hB hX (by omega) (by omega) hx) (kI (fun v_12 m_12 sz h_12 => ?_)) rfl
  obtain ⟨hr, rfl, rfl⟩ := h_12
  refine V.ialdM (pc := 15) hB (ca_PLake (by omega)) dX9_pealLake_15 (ix_nI (by omega) (by decide)) ?_
  refine V.retI (pc := 16) hB dX9_pealLake_16 rfl (rfl) (by omega) (by omega) ?_
  exact ⟨hr, rfl, rfl⟩

set_option maxRecDepth 100000 in
set_option maxHeartbeats 4000000 in
theorem c_X9_pealPitch {g : xG} (hG : GK g) {m : Mem} (hI : CI m) {r : Int32} : CC g yX9_pealPitch (.code yX9_pealPitch cX9_pealPitch 2 (some .int)) 4 1 6 [.ref (ad g 0), .int r] m (rI (fun v m2 => inP m r ∧ v = m.1 (LA 0 + 8) ((wOf m 0 + 15 - r.toNatClampNeg) % 16) ∧ m2 = m)) (fun E m2 => E = "java/util/NoSuchElementException" ∧ ¬ inP m r ∧ m2 = m) := by
  refine CC.mk hG RX9 rfl (by decide +kernel) rfl (Nat.le_of_ble_eq_true rfl) (fun sz B hB hX => ?_)
  show V g B 0 0 _ (hp g m) sz 0 [some (.ref (ad g 0)), some (.int r)] []
  refine V.aload_n (pc := 0) hB dX9_pealPitch_0 rfl ?_
  refine V.get (pc := 1) hB fk_Bells 0 wf_X9_12 dX9_pealPitch_1 (by decide) (hp_at (ca_Bells _)) rfl ?_
  refine V.get (pc := 4) hB fk_Land 7 wf_X9_205 dX9_pealPitch_4 (by decide) (hp_at (ca_Land (by omega) _)) rfl ?_
  refine V.get (pc := 7) hB fk_Peal 2 wf_X9_222 dX9_pealPitch_7 (by decide) (hp_at (ca_Peal (by omega) _)) rfl ?_
  refine V.aload_n (pc := 10) hB dX9_pealPitch_10 rfl ?_
  refine V.iload_n (pc := 11) hB dX9_pealPitch_11 rfl ?_
  refine V.cv (pc := 12) hB cw_X9_pealSlot wm_X9_216 wi_X9_pealSlot ws_X9_pealSlot dX9_pealPitch_12 (c_X9_pealSlot hG hI) (hp_at (ca_Bells _)) fk_Bells rfl (by omega) (by decide) rfl (by exact Nat.le_of_ble_eq_true rfl) (by omega) (by omega) (fun E m2 sz hx => VX.outM hB hX (by omega) (by omega) hx) (kI (fun v_12 m_12 sz h_12 => ?_)) rfl
  obtain ⟨hr, rfl, rfl⟩ := h_12
  refine V.ialdM (pc := 15) hB (ca_PPitch (by omega)) dX9_pealPitch_15 (ix_nI (by omega) (by decide)) ?_
  refine V.retI (pc := 16) hB dX9_pealPitch_16 rfl (rfl) (by omega) (by omega) ?_
  exact ⟨hr, rfl, rfl⟩

set_option maxRecDepth 100000 in
set_option maxHeartbeats 4000000 in
theorem c_X9_pealHour {g : xG} (hG : GK g) {m : Mem} (hI : CI m) {r : Int32} : CC g yX9_pealHour (.code yX9_pealHour cX9_pealHour 2 (some .int)) 4 1 6 [.ref (ad g 0), .int r] m (rI (fun v m2 => inP m r ∧ v = m.1 (LA 0 + 9) ((wOf m 0 + 15 - r.toNatClampNeg) % 16) ∧ m2 = m)) (fun E m2 => E = "java/util/NoSuchElementException" ∧ ¬ inP m r ∧ m2 = m) := by
  refine CC.mk hG RX9 rfl (by decide +kernel) rfl (Nat.le_of_ble_eq_true rfl) (fun sz B hB hX => ?_)
  show V g B 0 0 _ (hp g m) sz 0 [some (.ref (ad g 0)), some (.int r)] []
  refine V.aload_n (pc := 0) hB dX9_pealHour_0 rfl ?_
  refine V.get (pc := 1) hB fk_Bells 0 wf_X9_12 dX9_pealHour_1 (by decide) (hp_at (ca_Bells _)) rfl ?_
  refine V.get (pc := 4) hB fk_Land 7 wf_X9_205 dX9_pealHour_4 (by decide) (hp_at (ca_Land (by omega) _)) rfl ?_
  refine V.get (pc := 7) hB fk_Peal 3 wf_X9_225 dX9_pealHour_7 (by decide) (hp_at (ca_Peal (by omega) _)) rfl ?_
  refine V.aload_n (pc := 10) hB dX9_pealHour_10 rfl ?_
  refine V.iload_n (pc := 11) hB dX9_pealHour_11 rfl ?_
  refine V.cv (pc := 12) hB cw_X9_pealSlot wm_X9_216 wi_X9_pealSlot ws_X9_pealSlot dX9_pealHour_12 (c_X9_pealSlot hG hI) (hp_at (ca_Bells _)) fk_Bells rfl (by omega) (by decide) rfl (by exact Nat.le_of_ble_eq_true rfl) (by omega) (by omega) (fun E m2 sz hx => VX.outM hB hX (by omega) (by omega) hx) (kI (fun v_12 m_12 sz h_12 => ?_)) rfl
  obtain ⟨hr, rfl, rfl⟩ := h_12
  refine V.ialdM (pc := 15) hB (ca_PHour (by omega)) dX9_pealHour_15 (ix_nI (by omega) (by decide)) ?_
  refine V.retI (pc := 16) hB dX9_pealHour_16 rfl (rfl) (by omega) (by omega) ?_
  exact ⟨hr, rfl, rfl⟩

set_option maxRecDepth 100000 in
set_option maxHeartbeats 4000000 in
theorem c_X9_lakeAtRank {g : xG} (hG : GK g) {m : Mem} (hI : CI m) {x : Int32} : CC g yX9_lakeAtRank (.code yX9_lakeAtRank cX9_lakeAtRank 3 (some .int)) 6 1 6 [.ref (ad g 0), .int x] m (rI (fun v m2 => v = firstI (fun q => decide (nI (rankN m 0 q (nLk m 0)) = x)) (nLk m 0) ∧ ¬ v = -1 ∧ m2 = m)) (fun E m2 => E = "java/util/NoSuchElementException" ∧ firstI (fun q => decide (nI (rankN m 0 q (nLk m 0)) = x)) (nLk m 0) = -1 ∧ m2 = m) := by
  refine CC.mkX hG RX9 rfl (by decide +kernel) rfl (Nat.le_of_ble_eq_true rfl) (fun sz B hB hX hS => ?_)
  show V g B 0 0 _ (hp g m) sz 0 [some (.ref (ad g 0)), some (.int x), none] []
  refine V.aload_n (pc := 0) hB dX9_lakeAtRank_0 rfl ?_
  refine V.get (pc := 1) hB fk_Bells 0 wf_X9_12 dX9_lakeAtRank_1 (by decide) (hp_at (ca_Bells _)) rfl ?_
  refine V.iload_n (pc := 4) hB dX9_lakeAtRank_4 rfl ?_
  refine V.cv (pc := 5) hB cw_X6_lakeRanked wm_X9_240 wi_X6_lakeRanked ws_X6_lakeRanked dX9_lakeAtRank_5 (c_X6_lakeRanked hG (by omega) hI.1) (hp_at (ca_Land (by omega) _)) fk_Land rfl (by omega) (by decide) rfl (by exact Nat.le_of_ble_eq_true rfl) (by omega) (by omega) kN (kI (fun v_5 m_5 sz h_5 => ?_)) rfl
  obtain ⟨rfl, rfl⟩ := h_5
  refine V.istore_n (pc := 8) hB dX9_lakeAtRank_8 (by decide) rfl ?_
  refine V.iload_n (pc := 9) hB dX9_lakeAtRank_9 rfl ?_
  refine V.iconst (pc := 10) (v := (-1)) hB dX9_lakeAtRank_10 rfl ?_
  refine V.icmp_ne (pc := 11) (tgt := 24) hB dX9_lakeAtRank_11 (by decide) (fun c_11 => ?_) (fun c_11 => ?_)
  · refine V.iload_n (pc := 24) hB dX9_lakeAtRank_24 rfl ?_
    refine V.retI (pc := 25) hB dX9_lakeAtRank_25 rfl (rfl) (by omega) (by omega) ?_
    exact ⟨rfl, c_11, rfl⟩
  · refine V.throwX (pc := 14) hB hX hS rx_0 rx_1 rx_2 rx_5 tw_124_243 dX9_lakeAtRank_14 dX9_lakeAtRank_17 dX9_lakeAtRank_18 dX9_lakeAtRank_20 dX9_lakeAtRank_23 (by omega) (by exact Nat.le_of_ble_eq_true rfl) (by omega) (by omega) (fun _ => ⟨_, rfl, ?_⟩)
    exact ⟨rfl, c_11, rfl⟩

set_option maxRecDepth 100000 in
set_option maxHeartbeats 4000000 in
theorem c_X9_errorPosition {g : xG} (hG : GK g) {m : Mem} : CC g yX9_errorPosition (.code yX9_errorPosition cX9_errorPosition 1 (some .int)) 1 1 6 [.ref (ad g 0)] m (rI (fun v m2 => v = m.1 0 6 ∧ ¬ v = -1 ∧ m2 = m)) (fun E m2 => E = "java/util/NoSuchElementException" ∧ m.1 0 6 = -1 ∧ m2 = m) := by
  refine CC.mkX hG RX9 rfl (by decide +kernel) rfl (Nat.le_of_ble_eq_true rfl) (fun sz B hB hX hS => ?_)
  show V g B 0 0 _ (hp g m) sz 0 [some (.ref (ad g 0))] []
  refine V.aload_n (pc := 0) hB dX9_errorPosition_0 rfl ?_
  refine V.get (pc := 1) hB fk_Bells 6 wf_X9_40 dX9_errorPosition_1 (by decide) (hp_at (ca_Bells _)) rfl ?_
  refine V.iconst (pc := 4) (v := (-1)) hB dX9_errorPosition_4 rfl ?_
  refine V.icmp_ne (pc := 5) (tgt := 19) hB dX9_errorPosition_5 (by decide) (fun c_5 => ?_) (fun c_5 => ?_)
  · refine V.aload_n (pc := 19) hB dX9_errorPosition_19 rfl ?_
    refine V.get (pc := 20) hB fk_Bells 6 wf_X9_40 dX9_errorPosition_20 (by decide) (hp_at (ca_Bells _)) rfl ?_
    refine V.retI (pc := 23) hB dX9_errorPosition_23 rfl (rfl) (by omega) (by omega) ?_
    exact ⟨rfl, c_5, rfl⟩
  · refine V.throwXW (pc := 8) hB hX hS rx_0 rx_1 rx_2 rx_5 tw_124_300 dX9_errorPosition_8 dX9_errorPosition_11 dX9_errorPosition_12 dX9_errorPosition_15 dX9_errorPosition_18 (by omega) (by exact Nat.le_of_ble_eq_true rfl) (by omega) (by omega) (fun _ => ⟨_, rfl, ?_⟩)
    exact ⟨rfl, c_5, rfl⟩

set_option maxRecDepth 100000 in
set_option maxHeartbeats 4000000 in
theorem c_X9_failedCommand {g : xG} (hG : GK g) {m : Mem} : CC g yX9_failedCommand (.code yX9_failedCommand cX9_failedCommand 1 (some .int)) 1 1 6 [.ref (ad g 0)] m (rI (fun v m2 => v = m.1 0 7 ∧ ¬ v = -1 ∧ m2 = m)) (fun E m2 => E = "java/util/NoSuchElementException" ∧ m.1 0 7 = -1 ∧ m2 = m) := by
  refine CC.mkX hG RX9 rfl (by decide +kernel) rfl (Nat.le_of_ble_eq_true rfl) (fun sz B hB hX hS => ?_)
  show V g B 0 0 _ (hp g m) sz 0 [some (.ref (ad g 0))] []
  refine V.aload_n (pc := 0) hB dX9_failedCommand_0 rfl ?_
  refine V.get (pc := 1) hB fk_Bells 7 wf_X9_44 dX9_failedCommand_1 (by decide) (hp_at (ca_Bells _)) rfl ?_
  refine V.iconst (pc := 4) (v := (-1)) hB dX9_failedCommand_4 rfl ?_
  refine V.icmp_ne (pc := 5) (tgt := 19) hB dX9_failedCommand_5 (by decide) (fun c_5 => ?_) (fun c_5 => ?_)
  · refine V.aload_n (pc := 19) hB dX9_failedCommand_19 rfl ?_
    refine V.get (pc := 20) hB fk_Bells 7 wf_X9_44 dX9_failedCommand_20 (by decide) (hp_at (ca_Bells _)) rfl ?_
    refine V.retI (pc := 23) hB dX9_failedCommand_23 rfl (rfl) (by omega) (by omega) ?_
    exact ⟨rfl, c_5, rfl⟩
  · refine V.throwXW (pc := 8) hB hX hS rx_0 rx_1 rx_2 rx_5 tw_124_302 dX9_failedCommand_8 dX9_failedCommand_11 dX9_failedCommand_12 dX9_failedCommand_15 dX9_failedCommand_18 (by omega) (by exact Nat.le_of_ble_eq_true rfl) (by omega) (by omega) (fun _ => ⟨_, rfl, ?_⟩)
    exact ⟨rfl, c_5, rfl⟩

set_option maxRecDepth 100000 in
set_option maxHeartbeats 4000000 in
theorem c_X9_failureKind {g : xG} (hG : GK g) {m : Mem} (hf : fits .char (.int (m.1 0 8)) = true) : CC g yX9_failureKind (.code yX9_failureKind cX9_failureKind 1 (some .char)) 1 1 6 [.ref (ad g 0)] m (rI (fun v m2 => v = m.1 0 8 ∧ ¬ m.1 0 7 = -1 ∧ m2 = m)) (fun E m2 => E = "java/util/NoSuchElementException" ∧ m.1 0 7 = -1 ∧ m2 = m) := by
  refine CC.mkX hG RX9 rfl (by decide +kernel) rfl (Nat.le_of_ble_eq_true rfl) (fun sz B hB hX hS => ?_)
  show V g B 0 0 _ (hp g m) sz 0 [some (.ref (ad g 0))] []
  refine V.aload_n (pc := 0) hB dX9_failureKind_0 rfl ?_
  refine V.get (pc := 1) hB fk_Bells 7 wf_X9_44 dX9_failureKind_1 (by decide) (hp_at (ca_Bells _)) rfl ?_
  refine V.iconst (pc := 4) (v := (-1)) hB dX9_failureKind_4 rfl ?_
  refine V.icmp_ne (pc := 5) (tgt := 19) hB dX9_failureKind_5 (by decide) (fun c_5 => ?_) (fun c_5 => ?_)
  · refine V.aload_n (pc := 19) hB dX9_failureKind_19 rfl ?_
    refine V.get (pc := 20) hB fk_Bells 8 wf_X9_47 dX9_failureKind_20 (by decide) (hp_at (ca_Bells _)) rfl ?_
    refine V.retI (pc := 23) hB dX9_failureKind_23 rfl (fits_nar hf) (by omega) (by omega) ?_
    exact ⟨rfl, c_5, rfl⟩
  · refine V.throwXW (pc := 8) hB hX hS rx_0 rx_1 rx_2 rx_5 tw_124_302 dX9_failureKind_8 dX9_failureKind_11 dX9_failureKind_12 dX9_failureKind_15 dX9_failureKind_18 (by omega) (by exact Nat.le_of_ble_eq_true rfl) (by omega) (by omega) (fun _ => ⟨_, rfl, ?_⟩)
    exact ⟨rfl, c_5, rfl⟩
