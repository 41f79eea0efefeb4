/-! append(String) of the law's builder; both appends over any picture -/
theorem SX.mono {g : xG} {h h' : xH} {a v n : Nat} {byt : List Int32} (hs : SX g h a v n byt) (hh : ∀ (q : Nat) (e : va_E), h q = some e → h' q = some e) : SX g h' a v n byt := by
  obtain ⟨h1, h2, h3, h4 | ⟨⟨w1, w2, h4⟩, h5⟩⟩ := hs
  · exact ⟨h1, h2, h3, Or.inl h4⟩
  · exact ⟨h1, h2, h3, Or.inr ⟨⟨w1, w2, hh _ _ h4⟩, hh _ _ h5⟩⟩
/-- what else stands beside the builder stands clear of it -/
def LG (g : xG) : Prop := ex g (lb g) = none ∧ ∀ q, q < g.1.heap.size → ex g q = none
theorem pcq_ex {g : xG} (hL : LG g) {m : Mem} {n : Nat} (hs : SQ g m n) : ∀ (a : Nat) (e : va_E), ex g a = some e → pcq g m a = some e := by
  intro a e h
  unfold pcq
  rw [if_neg (fun z => by rw [z, hL.1] at h; cases h), if_neg (fun z => by rw [hL.2 _ z] at h; cases h), if_neg (fun z => by rw [z, hs.nx] at h; cases h)]
  exact h
section AS
variable {g : xG}
set_option maxRecDepth 100000 in
set_option maxHeartbeats 4000000 in
theorem t_J0_getBytes (hG : GK g) {z : xE} (hE : GE g z) {h : xH} {sz a v n w p cap : Nat} {byt : List Int32} {F : Nat → Int32} (hs : SX g h a v n byt) (hw : h w = some (.inl (g.2.2.1 4, cap, .inl F))) (hne : w ≠ v) (hpn : p + n ≤ cap) (hc : cap ≤ 200) : Ct g yJ0_getBytes_840e7 (.code yJ0_getBytes_840e7 cJ0_getBytes_840e7 4 none) 2 0 0 [.ref a, .ref w, .int (nI p), .int 0] h sz (fun r h' sz' => r = none ∧ sz' = sz ∧ h' = hx h w (.inl (g.2.2.1 4, cap, .inl (va_cpy (fun j => byt.getD j 0) F 0 p n)))) noT := by
  refine Ct.mk hG RJ0 rfl (by decide +kernel) rfl (Nat.le_of_ble_eq_true rfl) (fun B hB hX _ => ?_)
  show V g B 0 0 _ h sz 0 [some (.ref a), some (.ref w), some (.int (nI p)), some (.int 0)] []
  refine V.aload_n (pc := 0) hB dJ0_getBytes_840e7_0 rfl ?_
  refine V.callVR (pc := 1) hB cw_J0_coder_7d493 wm_J0_335 wi_J0_coder_7d493 ws_J0_coder_7d493 dJ0_getBytes_840e7_1 (by decide) (by decide) (t_J0_coder hG hE hs) (SX.rc hB hs) rfl (by exact Nat.le_of_ble_eq_true rfl) (by omega) (by omega) (fun _ _ _ hf => hf.elim) (fun v9 h' sz' hr => ?_) rfl
  obtain ⟨rfl, rfl, rfl⟩ := hr
  refine V.iload_n (pc := 4) hB dJ0_getBytes_840e7_4 rfl ?_
  refine V.icmp_ne (pc := 5) (tgt := 28) hB dJ0_getBytes_840e7_5 (by decide) (fun c_5 => absurd rfl c_5) (fun c_5 => ?_)
  refine V.aload_n (pc := 8) hB dJ0_getBytes_840e7_8 rfl ?_
  refine V.sx_value (pc := 9) hB hs wf_J0_9 dJ0_getBytes_840e7_9 ?_
  refine V.iconst (pc := 12) (v := 0) hB dJ0_getBytes_840e7_12 rfl ?_
  refine V.aload_n (pc := 13) hB dJ0_getBytes_840e7_13 rfl ?_
  refine V.iload_n (pc := 14) hB dJ0_getBytes_840e7_14 rfl ?_
  refine V.iload_n (pc := 15) hB dJ0_getBytes_840e7_15 rfl ?_
  refine V.ishl (pc := 16) hB dJ0_getBytes_840e7_16 ?_
  rw [sb_shl0]
  refine V.aload_n (pc := 17) hB dJ0_getBytes_840e7_17 rfl ?_
  refine V.sx_value (pc := 18) hB hs wf_J0_9 dJ0_getBytes_840e7_18 ?_
  refine V.sx_len (pc := 21) hB hs dJ0_getBytes_840e7_21 ?_
  have hend : ∀ sz9 : Nat, sz9 = sz' → V g B 0 0 (QE g B 0 0 (fun r h2 sz2 => r = none ∧ sz2 = sz' ∧ h2 = hx h' w (.inl (g.2.2.1 4, cap, .inl (va_cpy (fun j => byt.getD j 0) F 0 p n)))) noT) (hx h' w (.inl (g.2.2.1 4, cap, .inl (va_cpy (fun j => byt.getD j 0) F 0 p n)))) sz9 25 [some (.ref a), some (.ref w), some (.int (nI p)), some (.int 0)] [] := fun sz9 e9 => by
    subst e9
    refine V.goto (pc := 25) (tgt := 43) hB dJ0_getBytes_840e7_25 (by decide) ?_
    exact V.vret (pc := 43) hB dJ0_getBytes_840e7_43 rfl ⟨rfl, rfl, rfl⟩
  have h100 := hs.2.1
  have hfit : ∀ i, i < (nI n).toNatClampNeg → fits .byte (.int (byt.getD ((0 : Int32).toNatClampNeg + i) 0)) = true := fun i hi => by
    rw [nI_clamp (by omega)] at hi
    have := (hs.2.2.1 i hi).1
    rwa [show (0 : Int32).toNatClampNeg + i = i from Nat.zero_add i]
  have hh1 : hx h' w (.inl (g.2.2.1 4, cap, .inl (va_cpy (fun j => byt.getD j 0) F 0 p n))) w = some (.inl (g.2.2.1 4, cap, .inl (va_cpy (fun j => byt.getD j 0) F (0 : Int32).toNatClampNeg (nI p).toNatClampNeg (nI n).toNatClampNeg))) := by
    rw [hx_at, nI_clamp (n := n) (by omega), nI_clamp (n := p) (by omega)]
    rfl
  obtain ⟨-, -, -, ⟨-, -, -, hT⟩ | ⟨-, hv⟩⟩ := hs
  · exact V.acopyT (pc := 22) hB wm_J0_212 dJ0_getBytes_840e7_22 hT hw (by decide) (nI_pos (by omega)) (nI_pos (by omega)) (by rw [nI_clamp (by omega), show (0 : Int32).toNatClampNeg = 0 from rfl]; omega) (by rw [nI_clamp (by omega), nI_clamp (by omega)]; omega) hfit (by decide) (by exact Nat.le_of_ble_eq_true rfl) hh1 (fun q hq => hx_ne _ _ hq) (hend _ rfl)
  · exact V.acopy (pc := 22) (t := 4) (ty := .byte) hB wm_J0_212 rfl rfl dJ0_getBytes_840e7_22 hv hw (by decide) (nI_pos (by omega)) (nI_pos (by omega)) (by rw [nI_clamp (by omega), show (0 : Int32).toNatClampNeg = 0 from rfl]; omega) (by rw [nI_clamp (by omega), nI_clamp (by omega)]; omega) hfit (by decide) (by exact Nat.le_of_ble_eq_true rfl) hh1 (fun q hq => hx_ne _ _ hq) (hend _ rfl)
set_option maxRecDepth 100000 in
set_option maxHeartbeats 4000000 in
theorem q_J5_inflateIfNeededFor (hG : GK g) {z : xE} (hE : GE g z) {m : Mem} {a v n : Nat} {byt : List Int32} (hs : SX g (pcq g m) a v n byt) : CQ g yJ5_inflateIfNeededFor_a7421 (.code yJ5_inflateIfNeededFor_a7421 cJ5_inflateIfNeededFor_a7421 2 none) 2 0 0 [.ref (lb g), .ref a] m (rV (fun m2 => m2 = m)) noX := by
  refine CQ.mk hG RJ5 rfl (by decide +kernel) rfl (Nat.le_of_ble_eq_true rfl) (fun sz B hB hX => ?_)
  show V g B 0 0 _ (pcq g m) sz 0 [some (.ref (lb g)), some (.ref a)] []
  refine V.gets (pc := 0) hB (hE.cs) wf_J5_18 dJ5_inflateIfNeededFor_a7421_0 ?_
  refine V.if_eq (pc := 3) (tgt := 21) hB dJ5_inflateIfNeededFor_a7421_3 (by decide) (fun c_3 => absurd c_3 (by decide)) (fun c_3 => ?_)
  refine V.aload_n (pc := 6) hB dJ5_inflateIfNeededFor_a7421_6 rfl ?_
  refine V.get (pc := 7) hB fk_SB 1 wf_J5_22 dJ5_inflateIfNeededFor_a7421_7 (by decide) (hq_SB m) rfl ?_
  refine V.aload_n (pc := 10) hB dJ5_inflateIfNeededFor_a7421_10 rfl ?_
  refine V.callVR (pc := 11) hB cw_J0_coder_7d493 wm_J5_40 wi_J0_coder_7d493 ws_J0_coder_7d493 dJ5_inflateIfNeededFor_a7421_11 (by decide) (by decide) (t_J0_coder hG hE hs) (SX.rc hB hs) rfl (by exact Nat.le_of_ble_eq_true rfl) (by omega) (by omega) (fun _ _ _ hf => hf.elim) (fun v9 h' sz' hr => ?_) rfl
  obtain ⟨rfl, rfl, rfl⟩ := hr
  refine V.icmp_eq (pc := 14) (tgt := 21) hB dJ5_inflateIfNeededFor_a7421_14 (by decide) (fun c_14 => ?_) (fun c_14 => absurd rfl c_14)
  exact V.retVq (pc := 21) hB dJ5_inflateIfNeededFor_a7421_21 rfl (by omega) (by omega) rfl
/-- the builder's row with a text laid in at p -/
def layM (m : Mem) (p n : Nat) (byt : List Int32) : Mem := setRow m 361 (va_cpy (fun j => byt.getD j 0) (m.1 361) 0 p n)
set_option maxRecDepth 100000 in
set_option maxHeartbeats 4000000 in
theorem q_J5_putStringAt (hG : GK g) {z : xE} (hE : GE g z) (hL : LG g) {m : Mem} {n0 a v n p : Nat} {byt : List Int32} (hm : SQ g m n0) (hs : SX g (ex g) a v n byt) (hpn : p + n ≤ m.2.2) : CQ g yJ5_putStringAt_47b60 (.code yJ5_putStringAt_47b60 cJ5_putStringAt_47b60 3 none) 3 0 0 [.ref (lb g), .int (nI p), .ref a] m (rV (fun m2 => m2 = layM m p n byt)) noX := by
  have hs2 : SX g (pcq g m) a v n byt := hs.mono (pcq_ex hL hm)
  have hwv : ad g m.2.1 ≠ v := fun e => by
    obtain ⟨-, -, -, ⟨-, -, -, hT⟩ | ⟨-, hv⟩⟩ := hs
    · obtain ⟨cell, c1, -, -, -, -, -, hA⟩ := hT
      exact hA (by rw [← e]; show g.1.heap.size ≤ ad g m.2.1; unfold ad; omega)
    · rw [← e, hm.nx] at hv; cases hv
  have h2 := hm.2.2.1
  refine CQ.mk hG RJ5 rfl (by decide +kernel) rfl (Nat.le_of_ble_eq_true rfl) (fun sz B hB hX => ?_)
  show V g B 0 0 _ (pcq g m) sz 0 [some (.ref (lb g)), some (.int (nI p)), some (.ref a)] []
  refine V.aload_n (pc := 0) hB dJ5_putStringAt_47b60_0 rfl ?_
  refine V.aload_n (pc := 1) hB dJ5_putStringAt_47b60_1 rfl ?_
  refine V.cpq (pc := 2) (C := RJ4) hB cw_J5_inflateIfNeededFor_a7421 wm_J5_397 wsm_J5_inflateIfNeededFor_a7421 wpr_J5_inflateIfNeededFor_a7421 wi_J5_inflateIfNeededFor_a7421 dJ5_putStringAt_47b60_2 (q_J5_inflateIfNeededFor hG hE hs2) (RC.hp hB (hq_SB m) (ci := 9) rfl) (by omega) (by decide) rfl (by exact Nat.le_of_ble_eq_true rfl) (by omega) (by omega) (kVq (fun m_2 sz h_2 => ?_)) rfl
  obtain rfl := h_2.symm
  refine V.aload_n (pc := 5) hB dJ5_putStringAt_47b60_5 rfl ?_
  refine V.aload_n (pc := 6) hB dJ5_putStringAt_47b60_6 rfl ?_
  refine V.get (pc := 7) hB fk_SB 0 wf_J5_15 dJ5_putStringAt_47b60_7 (by decide) (hq_SB _) rfl ?_
  refine V.iload_n (pc := 10) hB dJ5_putStringAt_47b60_10 rfl ?_
  refine V.aload_n (pc := 11) hB dJ5_putStringAt_47b60_11 rfl ?_
  refine V.get (pc := 12) hB fk_SB 1 wf_J5_22 dJ5_putStringAt_47b60_12 (by decide) (hq_SB _) rfl ?_
  refine V.callVR (pc := 15) hB cw_J0_getBytes_840e7 wm_J5_399 wi_J0_getBytes_840e7 ws_J0_getBytes_840e7 dJ5_putStringAt_47b60_15 (by decide) (by decide) (t_J0_getBytes hG hE hs2 (hq_sb hm.none) hwv hpn h2) (SX.rc hB hs2) rfl (by exact Nat.le_of_ble_eq_true rfl) (by omega) (by omega) (fun _ _ _ hf => hf.elim) (fun v9 h' sz' hr => ?_) rfl
  obtain ⟨rfl, rfl, rfl⟩ := hr
  refine V.sub (h' := pcq g (layM m p n byt)) (fun q e he => ?_) (fun _ _ h => h) ?_
  · by_cases e1 : q = ad g m.2.1
    · subst e1
      rw [hx_at]
      have h3 := hq_sb (g := g) (m := layM m p n byt) hm.none
      rw [show ad g (layM m p n byt).2.1 = ad g m.2.1 from rfl] at h3
      rw [h3] at he
      rw [← he, show (layM m p n byt).1 361 = va_cpy (fun j => byt.getD j 0) (m.1 361) 0 p n from setRow_same _ _ _]
      rfl
    · rw [hx_ne _ _ e1]
      unfold pcq at he ⊢
      rw [show (layM m p n byt).1 360 = m.1 360 from setRow_cell _ _ (by decide)] at he
      by_cases e2 : q = lb g
      · rw [if_pos e2] at he ⊢; exact he
      · rw [if_neg e2] at he ⊢
        by_cases e3 : q < g.1.heap.size
        · rw [if_pos e3] at he; cases he
        · rw [if_neg e3] at he ⊢
          rw [if_neg (show ¬ q = ad g (layM m p n byt).2.1 from e1)] at he
          rw [if_neg e1]; exact he
  exact V.retVq (pc := 18) hB dJ5_putStringAt_47b60_18 rfl (by omega) (by omega) rfl
theorem lay_in {f F : Nat → Int32} {p n j : Nat} (h : j < n) : va_cpy f F 0 p n (p + j) = f j := by
  unfold va_cpy
  rw [if_pos ⟨by omega, by omega⟩]
  congr 1
  omega
theorem lay_out {f F : Nat → Int32} {p n j : Nat} (h : j < p ∨ p + n ≤ j) : va_cpy f F 0 p n j = F j := by
  unfold va_cpy
  rw [if_neg (by omega)]
set_option maxRecDepth 100000 in
set_option maxHeartbeats 4000000 in
theorem q_J5_append_cf1ce (hG : GK g) {z : xE} (hE : GE g z) (hL : LG g) {m : Mem} {n0 a v n : Nat} {byt : List Int32} (hm : SQ g m n0) (hn9 : n0 + n ≤ 90) (hs : SX g (ex g) a v n byt) : CQ g yJ5_append_cf1ce (.code yJ5_append_cf1ce cJ5_append_cf1ce 3 (some (.object "java/lang/AbstractStringBuilder"))) 5 1 200 [.ref (lb g), .ref a] m (rRq g (fun _ m2 => SQ g m2 (n0 + n) ∧ SF m m2 n0 ∧ ∀ j, j < n → m2.1 361 (n0 + j) = byt.getD j 0)) noX := by
  have hs2 : SX g (pcq g m) a v n byt := hs.mono (pcq_ex hL hm)
  have h2 := hm.2.2.1
  have h3 := hm.2.1
  refine CQ.mk hG RJ5 rfl (by decide +kernel) rfl (Nat.le_of_ble_eq_true rfl) (fun sz B hB hX => ?_)
  show V g B 0 0 _ (pcq g m) sz 0 [some (.ref (lb g)), some (.ref a), none] []
  refine V.aload_n (pc := 0) hB dJ5_append_cf1ce_0 rfl ?_
  refine V.ifnn (pc := 1) (tgt := 9) hB dJ5_append_cf1ce_1 (by decide) ?_
  refine V.aload_n (pc := 9) hB dJ5_append_cf1ce_9 rfl ?_
  refine V.callVR (pc := 10) hB cw_J0_length_8abf5 wm_J5_32 wi_J0_length_8abf5 ws_J0_length_8abf5 dJ5_append_cf1ce_10 (by decide) (by decide) (t_J0_length hG hE hs2) (SX.rc hB hs2) rfl (by exact Nat.le_of_ble_eq_true rfl) (by omega) (by omega) (fun _ _ _ hf => hf.elim) (fun v9 h' sz' hr => ?_) rfl
  obtain ⟨rfl, rfl, rfl⟩ := hr
  refine V.istore_n (pc := 13) hB dJ5_append_cf1ce_13 (by decide) rfl ?_
  refine V.aload_n (pc := 14) hB dJ5_append_cf1ce_14 rfl ?_
  refine V.aload_n (pc := 15) hB dJ5_append_cf1ce_15 rfl ?_
  refine V.get (pc := 16) hB fk_SB 3 wf_J5_79 dJ5_append_cf1ce_16 (by decide) (hq_SB _) rfl ?_
  rw [hm.1]
  refine V.iload_n (pc := 19) hB dJ5_append_cf1ce_19 rfl ?_
  refine V.iadd (pc := 20) hB dJ5_append_cf1ce_20 ?_
  rw [nI_add]
  refine V.cpq (pc := 21) (C := RJ4) hB cw_J5_ensureCapacityInternal_d00df wm_J5_100 wsm_J5_ensureCapacityInternal_d00df wpr_J5_ensureCapacityInternal_d00df wi_J5_ensureCapacityInternal_d00df dJ5_append_cf1ce_21 (q_J5_ensureCapacityInternal_d00df hG hm (q := n0 + n) hn9) (RC.hp hB (hq_SB m) (ci := 9) rfl) (by omega) (by decide) rfl (by exact Nat.le_of_ble_eq_true rfl) (by omega) (by omega) (kVq (fun m_21 sz h_21 => ?_)) rfl
  obtain ⟨hm2, hcap, hF⟩ := h_21
  refine V.aload_n (pc := 24) hB dJ5_append_cf1ce_24 rfl ?_
  refine V.aload_n (pc := 25) hB dJ5_append_cf1ce_25 rfl ?_
  refine V.get (pc := 26) hB fk_SB 3 wf_J5_79 dJ5_append_cf1ce_26 (by decide) (hq_SB _) rfl ?_
  rw [hm2.1]
  refine V.aload_n (pc := 29) hB dJ5_append_cf1ce_29 rfl ?_
  refine V.cpq (pc := 30) (C := RJ4) hB cw_J5_putStringAt_47b60 wm_J5_208 wsm_J5_putStringAt_47b60 wpr_J5_putStringAt_47b60 wi_J5_putStringAt_47b60 dJ5_append_cf1ce_30 (q_J5_putStringAt hG hE hL hm2 hs hcap) (RC.hp hB (hq_SB m_21) (ci := 9) rfl) (by omega) (by decide) rfl (by exact Nat.le_of_ble_eq_true rfl) (by omega) (by omega) (kVq (fun m_30 sz h_30 => ?_)) rfl
  subst h_30
  refine V.aload_n (pc := 33) hB dJ5_append_cf1ce_33 rfl ?_
  refine V.dup (pc := 34) hB dJ5_append_cf1ce_34 rfl ?_
  refine V.get (pc := 35) hB fk_SB 3 wf_J5_79 dJ5_append_cf1ce_35 (by decide) (hq_SB _) rfl ?_
  rw [show (layM m_21 n0 n byt).1 360 3 = nI n0 from (congrFun (setRow_cell m_21 _ (show (360 : Nat) ≠ 361 by decide)) 3).trans hm2.1]
  refine V.iload_n (pc := 38) hB dJ5_append_cf1ce_38 rfl ?_
  refine V.iadd (pc := 39) hB dJ5_append_cf1ce_39 ?_
  rw [nI_add]
  refine V.p_SB_countq (pc := 40) hB wf_J5_79 dJ5_append_cf1ce_40 ?_
  refine V.aload_n (pc := 43) hB dJ5_append_cf1ce_43 rfl ?_
  have e361 : (up (layM m_21 n0 n byt) 360 3 (nI (n0 + n))).1 361 = va_cpy (fun j => byt.getD j 0) (m_21.1 361) 0 n0 n := (up_cell _ _ _ (by decide)).trans (setRow_same _ _ _)
  refine V.retRq (pc := 44) hB dJ5_append_cf1ce_44 rfl (Or.inl ⟨_, rfl⟩) (by omega) (by omega) ⟨⟨up_same _ _ _ _, hcap, hm2.2.2.1, hm2.none, fun j hj => ?_, hm2.nx⟩, ⟨fun k a b => ?_, fun j hj => ?_⟩, fun j hj => ?_⟩
  · rw [e361]
    by_cases h1 : j < n0
    · rw [lay_out (Or.inl h1)]; exact hm2.by j hj
    · by_cases h4 : j < n0 + n
      · obtain ⟨i, rfl⟩ : ∃ i, j = n0 + i := ⟨j - n0, by omega⟩
        rw [lay_in (by omega)]
        exact (hs.2.2.1 i (by omega)).1
      · rw [lay_out (Or.inr (by omega))]; exact hm2.by j hj
  · rw [up_cell _ _ _ a]
    exact (setRow_cell _ _ b).trans (hF.1 k a b)
  · rw [e361, lay_out (Or.inl hj)]
    exact hF.2 j (by omega)
  · rw [e361, lay_in hj]
set_option maxRecDepth 100000 in
set_option maxHeartbeats 4000000 in
theorem q_J4_append_15ec4 (hG : GK g) {z : xE} (hE : GE g z) (hL : LG g) {m : Mem} {n0 a v n : Nat} {byt : List Int32} (hm : SQ g m n0) (hn9 : n0 + n ≤ 90) (hs : SX g (ex g) a v n byt) : CQ g yJ4_append_15ec4 (.code yJ4_append_15ec4 cJ4_append_15ec4 2 (some (.object "java/lang/StringBuilder"))) 6 1 200 [.ref (lb g), .ref a] m (rRq g (fun _ m2 => SQ g m2 (n0 + n) ∧ SF m m2 n0 ∧ ∀ j, j < n → m2.1 361 (n0 + j) = byt.getD j 0)) noX := by
  refine CQ.mk hG RJ4 rfl (by decide +kernel) rfl (Nat.le_of_ble_eq_true rfl) (fun sz B hB hX => ?_)
  show V g B 0 0 _ (pcq g m) sz 0 [some (.ref (lb g)), some (.ref a)] []
  refine V.aload_n (pc := 0) hB dJ4_append_15ec4_0 rfl ?_
  refine V.aload_n (pc := 1) hB dJ4_append_15ec4_1 rfl ?_
  refine V.csuq (pc := 2) (C := RJ4) hB (ci := 9) rfl cw_J5_append_cf1ce wm_J4_29 wsm_J5_append_cf1ce wsp_J4 (by decide +kernel) wi_J5_append_cf1ce dJ4_append_15ec4_2 (q_J5_append_cf1ce hG hE hL hm hn9 hs) (RC.hp hB (hq_SB m) (ci := 9) rfl) (by omega) (by decide) rfl (by exact Nat.le_of_ble_eq_true rfl) (by omega) (by omega) (kRq (fun v_2 m_2 sz h_2 => ?_)) rfl
  refine V.pop (pc := 5) hB dJ4_append_15ec4_5 rfl ?_
  refine V.aload_n (pc := 6) hB dJ4_append_15ec4_6 rfl ?_
  exact V.retRq (pc := 7) hB dJ4_append_15ec4_7 rfl (Or.inl ⟨_, rfl⟩) (by omega) (by omega) h_2
/-- a contract over a larger picture -/
theorem Ct.sub {y : MethodName} {w0 : Cond} {d mc ms : Nat} {av : List Value} {h h2 : xH} {sz : Nat} {Qr : Option Value → xH → Nat → Prop} {Qx : String → xH → Nat → Prop} (hc : Ct g y w0 d mc ms av h2 sz Qr Qx) (hh : ∀ (a : Nat) (e : va_E), h2 a = some e → h a = some e) : Ct g y w0 d mc ms av h sz Qr Qx := by
  intro l hl
  refine (hc l hl).mono (fun a U hp => ⟨hp.1, hp.2.1, ?_⟩) (fun _ _ _ _ _ h => h) (fun a s o s' _ hq => hq)
  obtain ⟨z1, z2, z3, z4, z5⟩ := hp.2.2
  exact ⟨z1, z2, z3, fun a e he => z4 a e (hh a e he), z5⟩
end AS
