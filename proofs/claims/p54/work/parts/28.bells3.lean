section VDF
variable {g : xG} {B : BT} {k n : Nat} {Q : State → Prop} {m : Mem} {sz pc : Nat} {ls : List (Option Value)} {st : List Value} {cc : ByteArray} {nL : Nat} {own : String} {ret : Option FieldType} {d mc ms : Nat} {PX : String → Mem → Prop} {Qr : Option Value → xH → Nat → Prop} {Qx : String → xH → Nat → Prop} {h : xH}
theorem V.dret0 (hB : Bd g B cc nL own ret d mc ms) {v : UInt64} (hd : decode cc pc = .ok (.dreturn, 1)) (hr : ret = some .double) (hq : Qr (some (.double v)) h sz) : V g B mc ms (QE g B mc ms Qr Qx) h sz pc ls [.double v] := by
  obtain ⟨p, l, e, R, s, m, args, below, meth, c⟩ := B
  obtain ⟨hx, hb, hml, hown, hr9, hlk, hG, hW, hR, hfl⟩ := hB
  intro H locs A hz hl0
  exact vx_ret (W.dret (v := v) hx hb (hr9.trans hr) (fun t ht hWt => ⟨_, h, sz, rfl, hq, State.WarmedH.trans hW hWt, by rw [ht]; exact hz.locs (fun _ h => by cases h)⟩) hz.2.2.2.2 hd hlk)
theorem V.fret0 (hB : Bd g B cc nL own ret d mc ms) {v : UInt32} (hd : decode cc pc = .ok (.freturn, 1)) (hr : ret = some .float) (hq : Qr (some (.float v)) h sz) : V g B mc ms (QE g B mc ms Qr Qx) h sz pc ls [.float v] := by
  obtain ⟨p, l, e, R, s, m, args, below, meth, c⟩ := B
  obtain ⟨hx, hb, hml, hown, hr9, hlk, hG, hW, hR, hfl⟩ := hB
  intro H locs A hz hl0
  exact vx_ret (W.fret (v := v) hx hb (hr9.trans hr) (fun t ht hWt => ⟨_, h, sz, rfl, hq, State.WarmedH.trans hW hWt, by rw [ht]; exact hz.locs (fun _ h => by cases h)⟩) hz.2.2.2.2 hd hlk)
theorem V.retD (hB : Bd g B cc nL own ret d mc ms) {v : UInt64} {P : UInt64 → Mem → Prop} (hd : decode cc pc = .ok (.dreturn, 1)) (hr : ret = some .double) (hk : k ≤ mc) (hs : n ≤ ms) (hq : P v m) : V g B k n (QM g B mc ms (rD P) PX) (hp g m) sz pc ls [.double v] := V.wid hk hs (V.dret0 hB hd hr ⟨m, rfl, v, rfl, hq⟩)
theorem V.retF (hB : Bd g B cc nL own ret d mc ms) {v : UInt32} {P : UInt32 → Mem → Prop} (hd : decode cc pc = .ok (.freturn, 1)) (hr : ret = some .float) (hk : k ≤ mc) (hs : n ≤ ms) (hq : P v m) : V g B k n (QM g B mc ms (rF P) PX) (hp g m) sz pc ls [.float v] := V.wid hk hs (V.fret0 hB hd hr ⟨m, rfl, v, rfl, hq⟩)
end VDF

set_option maxRecDepth 100000 in
set_option maxHeartbeats 4000000 in
theorem c_X9_meanTemperature {g : xG} (hG : GK g) {m : Mem} (hI : CI m) {x : Int32} (hn : inL m x → ¬ nLy m 0 x.toNatClampNeg = 0 → vf_n64 (FP.ddiv (FP.i2d (l_sum (m.1 (LK 0 x.toNatClampNeg + 2)) (nLy m 0 x.toNatClampNeg))) (FP.i2d (m.1 (LK 0 x.toNatClampNeg) 3)))) : CC g yX9_meanTemperature (.code yX9_meanTemperature cX9_meanTemperature 3 (some .double)) 3 2 12 [.ref (ad g 0), .int x] m (rD (fun v m2 => (inL m x ∧ ¬ nLy m 0 x.toNatClampNeg = 0) ∧ v = FP.ddiv (FP.i2d (l_sum (m.1 (LK 0 x.toNatClampNeg + 2)) (nLy m 0 x.toNatClampNeg))) (FP.i2d (m.1 (LK 0 x.toNatClampNeg) 3)) ∧ m2 = m)) (fun E m2 => (E = "java/lang/IndexOutOfBoundsException" ∧ ¬ inL m x ∧ m2 = m) ∨ (E = "java/lang/ArithmeticException" ∧ (inL m x ∧ nLy m 0 x.toNatClampNeg = 0) ∧ m2 = m)) := by
  refine CC.mkX hG RX9 rfl (by decide +kernel) rfl (Nat.le_of_ble_eq_true rfl) (fun sz B hB hX hS => ?_)
  show V g B 0 0 _ (hp g m) sz 0 [some (.ref (ad g 0)), some (.int x), none] []
  refine V.aload_n (pc := 0) hB dX9_meanTemperature_0 rfl ?_
  refine V.iload_n (pc := 1) hB dX9_meanTemperature_1 rfl ?_
  refine V.cv (pc := 2) hB cw_X9_lakeNumbered wm_X9_89 wi_X9_lakeNumbered ws_X9_lakeNumbered dX9_meanTemperature_2 (c_X9_lakeNumbered hG hI) (hp_at (ca_Bells _)) fk_Bells rfl (by omega) (by decide) rfl (by exact Nat.le_of_ble_eq_true rfl) (by omega) (by omega) (fun E m2 sz hx => VX.outM hB hX (by omega) (by omega) (Or.inl hx)) (kR (fun v_2 m_2 sz h_2 => ?_)) rfl
  obtain ⟨hc, rfl, rfl⟩ := h_2
  obtain ⟨hxe, hx⟩ := idx_of hc (by have := hI.1.nl5; omega)
  have h5 := hI.1.nl5
  have hln := hI.1.ln hx
  refine V.astore_n (pc := 5) hB dX9_meanTemperature_5 (by decide) rfl ?_
  refine V.aload_n (pc := 6) hB dX9_meanTemperature_6 rfl ?_
  refine V.get (pc := 7) hB fk_Lake 3 wf_X9_98 dX9_meanTemperature_7 (by decide) (hp_at (ca_Lake (by omega) (by omega) _)) rfl ?_
  refine V.if_ne (pc := 10) (tgt := 24) hB dX9_meanTemperature_10 (by decide) (fun c_10 => ?_) (fun c_10 => ?_)
  · have hy1 : ¬ nLy _ 0 x.toNatClampNeg = 0 := fun z => c_10 (hln.zero.mpr z)
    refine V.aload_n (pc := 24) hB dX9_meanTemperature_24 rfl ?_
    refine V.cv (pc := 25) hB cw_X5_temperatureSum wm_X9_328 wi_X5_temperatureSum ws_X5_temperatureSum dX9_meanTemperature_25 (c_X5_temperatureSum hG (by omega) (by omega) hln) (hp_at (ca_Lake (by omega) (by omega) _)) fk_Lake rfl (by omega) (by decide) rfl (by exact Nat.le_of_ble_eq_true rfl) (by omega) (by omega) kN (kI (fun v_25 m_25 sz h_25 => ?_)) rfl
    obtain ⟨rfl, rfl⟩ := h_25
    refine V.i2d (pc := 28) hB dX9_meanTemperature_28 ?_
    refine V.aload_n (pc := 29) hB dX9_meanTemperature_29 rfl ?_
    refine V.get (pc := 30) hB fk_Lake 3 wf_X9_98 dX9_meanTemperature_30 (by decide) (hp_at (ca_Lake (by omega) (by omega) _)) rfl ?_
    refine V.i2d (pc := 33) hB dX9_meanTemperature_33 ?_
    refine V.ddiv (pc := 34) hB dX9_meanTemperature_34 (hn hc hy1) ?_
    refine V.retD (pc := 35) hB dX9_meanTemperature_35 rfl (by omega) (by omega) ?_
    exact ⟨⟨hc, hy1⟩, rfl, rfl⟩
  · refine V.throwSW (pc := 13) hB hX hS tw_323_325 dX9_meanTemperature_13 dX9_meanTemperature_16 dX9_meanTemperature_17 dX9_meanTemperature_20 dX9_meanTemperature_23 (by omega) (by exact Nat.le_of_ble_eq_true rfl) (by omega) (by omega) (fun _ => ⟨_, rfl, ?_⟩)
    exact Or.inr ⟨rfl, ⟨hc, hln.zero.mp c_10⟩, rfl⟩

set_option maxRecDepth 100000 in
set_option maxHeartbeats 4000000 in
theorem c_X9_iceShare {g : xG} (hG : GK g) {m : Mem} (hI : CI m) {x : Int32} (hn : inL m x → vf_n32 (FP.fdiv (FP.i2f (iceV m 0 x.toNatClampNeg)) (FP.i2f (m.1 (LK 0 x.toNatClampNeg) 4)))) : CC g yX9_iceShare (.code yX9_iceShare cX9_iceShare 3 (some .float)) 5 1 6 [.ref (ad g 0), .int x] m (rF (fun v m2 => inL m x ∧ v = FP.fdiv (FP.i2f (iceV m 0 x.toNatClampNeg)) (FP.i2f (m.1 (LK 0 x.toNatClampNeg) 4)) ∧ m2 = m)) (fun E m2 => E = "java/lang/IndexOutOfBoundsException" ∧ ¬ inL m x ∧ m2 = m) := by
  refine CC.mk hG RX9 rfl (by decide +kernel) rfl (Nat.le_of_ble_eq_true rfl) (fun sz B hB hX => ?_)
  show V g B 0 0 _ (hp g m) sz 0 [some (.ref (ad g 0)), some (.int x), none] []
  refine V.aload_n (pc := 0) hB dX9_iceShare_0 rfl ?_
  refine V.iload_n (pc := 1) hB dX9_iceShare_1 rfl ?_
  refine V.cv (pc := 2) hB cw_X9_lakeNumbered wm_X9_89 wi_X9_lakeNumbered ws_X9_lakeNumbered dX9_iceShare_2 (c_X9_lakeNumbered hG hI) (hp_at (ca_Bells _)) fk_Bells rfl (by omega) (by decide) rfl (by exact Nat.le_of_ble_eq_true rfl) (by omega) (by omega) (fun E m2 sz hx => VX.outM hB hX (by omega) (by omega) hx) (kR (fun v_2 m_2 sz h_2 => ?_)) rfl
  obtain ⟨hc, rfl, rfl⟩ := h_2
  obtain ⟨hxe, hx⟩ := idx_of hc (by have := hI.1.nl5; omega)
  have h5 := hI.1.nl5
  have hln := hI.1.ln hx
  refine V.astore_n (pc := 5) hB dX9_iceShare_5 (by decide) rfl ?_
  refine V.aload_n (pc := 6) hB dX9_iceShare_6 rfl ?_
  refine V.cv (pc := 7) hB cw_X5_iceByLayers wm_X9_114 wi_X5_iceByLayers ws_X5_iceByLayers dX9_iceShare_7 (c_X5_iceByLayers hG (by omega) (by omega) hln) (hp_at (ca_Lake (by omega) (by omega) _)) fk_Lake rfl (by omega) (by decide) rfl (by exact Nat.le_of_ble_eq_true rfl) (by omega) (by omega) kN (kI (fun v_7 m_7 sz h_7 => ?_)) rfl
  obtain ⟨rfl, rfl⟩ := h_7
  refine V.i2f (pc := 10) hB dX9_iceShare_10 ?_
  refine V.aload_n (pc := 11) hB dX9_iceShare_11 rfl ?_
  refine V.get (pc := 12) hB fk_Lake 4 wf_X9_93 dX9_iceShare_12 (by decide) (hp_at (ca_Lake (by omega) (by omega) _)) rfl ?_
  refine V.i2f (pc := 15) hB dX9_iceShare_15 ?_
  refine V.fdiv (pc := 16) hB dX9_iceShare_16 (hn hc) ?_
  refine V.retF (pc := 17) hB dX9_iceShare_17 rfl (by omega) (by omega) ?_
  exact ⟨hc, rfl, rfl⟩
