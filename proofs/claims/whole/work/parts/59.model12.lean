/-! the reference's undo, save, restore -/
def MFu (m m2 : Mem) : Prop := m2.2 = m.2 ∧ (∀ k, k ≠ 363 → k ≠ 364 → k ≠ 367 → m2.1 k = m.1 k) ∧ ∀ f, f ≠ 15 → f ≠ 6 → f ≠ 5 → m2.1 363 f = m.1 363 f
theorem JS.undo {m m2 M : Mem} (h : JS m M) (h0 : 0 < hc M) (h1 : ∀ k, k < 218 → m2.1 364 k = hro (m.1 368) (hc M - 1) k) (h6 : m2.1 363 6 = nI (hc M - 1)) (h5 : m2.1 363 5 = m.1 363 5) (h8 : m2.1 368 = m.1 368) (h7 : m2.1 367 = m.1 367) : JS m2 (undoM M) := by
  obtain ⟨hG, hI, _, hH, hs5, hS⟩ := h
  obtain ⟨e1, e2⟩ := undo_hw hI h0
  have h80 := hI.2.1.2.1
  have hc8 := hI.2.1.2.2.2
  refine ⟨?_, undo_CI hI h0, by rw [e2]; exact h6, fun q hq => ?_, ?_, fun hs => ?_⟩
  · have h := hH 0 h0
    exact (h.row h1).sm (undo_sm hI h0)
  · rw [e2] at hq
    rw [e2, e1, h8, show ((hw M + 7) % 8 + 7 - q) % 8 = (hw M + 7 - (q + 1)) % 8 by omega, show hc M - 1 - 1 - q = hc M - 1 - (q + 1) by omega]
    have h3 := LA_3 ((hw M + 7 - (q + 1)) % 8)
    have h := hH (q + 1) (by omega)
    exact h.sm ((show Agr M (undoM M) (3 + (hw M + 7 - (q + 1)) % 8) from fun o ho => undo_cell hI h0 (by omega) (by omega)).sm h.1.2.1.nl5)
  · rw [h5, hs5, undo_cell hI h0 (by omega) (by omega)]
  · rw [undo_cell hI h0 (by omega) (by omega)] at hs
    rw [h7]
    have h := hS hs
    exact h.sm ((show Agr M (undoM M) 2 from fun o ho => undo_cell hI h0 (by rw [LA_2]; omega) (by rw [LA_2]; omega)).sm h.1.2.1.nl5)
theorem JS.save {m m2 M : Mem} (h : JS m M) (h1 : m2.1 364 = m.1 364) (h7 : ∀ k, k < 218 → m2.1 367 k = m.1 364 k) (h6 : m2.1 363 6 = m.1 363 6) (h5 : m2.1 363 5 = 1) (h8 : m2.1 368 = m.1 368) : JS m2 (saveM M) := by
  obtain ⟨hG, hI, hs6, hH, hs5, hS⟩ := h
  have h91 : (saveM M).1 91 = M.1 91 := save_cell hI (by omega) (by omega)
  have e1 : hw (saveM M) = hw M := by unfold hw; rw [h91]
  have e2 : hc (saveM M) = hc M := by unfold hc; rw [h91]
  refine ⟨by rw [h1]; exact hG.sm ((save_agr hI).sm hI.1.nl5), save_CI hI, by rw [e2, h6]; exact hs6, fun q hq => ?_, by rw [h5]; exact (up_same _ _ _ _).symm, fun _ => (hG.row h7).sm (save_sm hI)⟩
  rw [e2] at hq
  rw [e2, e1, h8]
  exact (hH q hq).sm ((save_old hI _).sm (hH q hq).1.2.1.nl5)
theorem JS.rest {m m2 M : Mem} (h : JS m M) (hs : M.1 0 3 = 1) (h1 : ∀ k, k < 218 → m2.1 364 k = m.1 367 k) (h6 : m2.1 363 6 = 0) (h5 : m2.1 363 5 = m.1 363 5) (h7 : m2.1 367 = m.1 367) : JS m2 (restM M) := by
  obtain ⟨hG, hI, hs6, hH, hs5, hS⟩ := h
  have hL2 := (hS hs).1.2.1
  have e2 : hc (restM M) = 0 := by unfold hc restM; rw [up_same]; rfl
  have h0 : (restM M).1 0 = M.1 0 := rest_cell hL2 (by omega) (by omega)
  refine ⟨((hS hs).row h1).sm (rest_sm hL2), rest_CI hI hs hL2, by rw [e2]; exact h6, fun q hq => by rw [e2] at hq; omega, by rw [h5, h0]; exact hs5, fun _ => ?_⟩
  rw [h7]
  exact (hS hs).sm ((show Agr M (restM M) 2 from fun o ho => rest_cell hL2 (by rw [LA_2]; omega) (by rw [LA_2]; omega)).sm hL2.nl5)
theorem cpRow_lo {f t : Nat → Int32} {a k : Nat} (hk : k < 218) : cpRow f t a 0 k = f (a + k) := by
  unfold cpRow
  rw [if_pos (by omega), Nat.sub_zero]
theorem JS.saved {m M : Mem} (h : JS m M) : M.1 0 3 = 0 ∨ M.1 0 3 = 1 := h.2.1.2.2.2.imp id (fun z => z.1)
theorem JS.mem {m m2 M : Mem} (h : JS m M) (h1 : m2.1 364 = m.1 364) (h6 : m2.1 363 6 = m.1 363 6) (h5 : m2.1 363 5 = m.1 363 5) (h7 : m2.1 367 = m.1 367) (h8 : m2.1 368 = m.1 368) : JS m2 M := by
  unfold JS
  rw [h1, h6, h5, h7, h8]
  exact h
theorem JS.thr {m M : Mem} {t : Int32} (h : JS m M) : JS (up m 363 15 t) M := h.mem (up_cell _ _ _ (by decide)) (up_slot _ _ _ (by decide)) (up_slot _ _ _ (by decide)) (up_cell _ _ _ (by decide)) (up_cell _ _ _ (by decide))
theorem MFu.thr (m : Mem) (t : Int32) : MFu m (up m 363 15 t) := ⟨rfl, fun k a _ _ => up_cell _ _ _ a, fun f a _ _ => up_slot _ _ _ a⟩

set_option maxRecDepth 100000 in
set_option maxHeartbeats 1000000 in
theorem c_X10_undo {g : xG} (hG : GK g) {m M : Mem} (hJ : JS m M) : CC g yX10_undo (.code yX10_undo cX10_undo 1 (some .int)) 3 0 0 [.ref (ad g 363)] m (rI (fun v m2 => ((0 < hc M ∧ v = nI (hc M - 1) ∧ m2.1 363 15 = 0 ∧ JS m2 (undoM M)) ∨ (hc M = 0 ∧ v = 0 ∧ m2.1 363 15 = 1 ∧ JS m2 M)) ∧ MFu m m2)) noX := by
  have hI := hJ.2.1
  have h8 := hI.2.1.2.2.2
  obtain ⟨b, hb⟩ : ∃ b, b = decide (0 < hc M) := ⟨_, rfl⟩
  refine CC.mk hG RX10 rfl (by decide +kernel) rfl (Nat.le_of_ble_eq_true rfl) (fun sz B hB hX => ?_)
  show V g B 0 0 _ (hp g m) sz 0 [some (.ref (ad g 363))] []
  have join : ∀ (sz : Nat) (u : Int32), u = (if b = true then 1 else 0) → V g B 0 0 (QM g B 0 0 (rI (fun v m2 => ((0 < hc M ∧ v = nI (hc M - 1) ∧ m2.1 363 15 = 0 ∧ JS m2 (undoM M)) ∨ (hc M = 0 ∧ v = 0 ∧ m2.1 363 15 = 1 ∧ JS m2 M)) ∧ MFu m m2)) noX) (hp g (m)) sz 13 [some (.ref (ad g 363))] [.int u, .ref (ad g 363)] := by
    intro sz u hu
    refine V.cv (pc := 13) hB cw_X10_goes wm_X10_61 wi_X10_goes ws_X10_goes dX10_undo_13 (c_X10_goes hG) (hp_at (ca_Model _)) fk_Model rfl (by omega) (by decide) rfl (by exact Nat.le_of_ble_eq_true rfl) (by omega) (by omega) kN (kI (fun v_13 m_13 sz h_13 => ?_)) rfl
    obtain ⟨rfl, hm_13⟩ := h_13
    subst hm_13
    rw [hu, thrV_b1]
    refine V.if_ne (pc := 16) (tgt := 21) hB dX10_undo_16 (by decide) (fun c_16 => ?_) (fun c_16 => ?_)
    · have hb1 : b = true := by
        cases b
        · exact absurd rfl c_16
        · rfl
      have h0 : 0 < hc M := of_decide_eq_true (hb.symm.trans hb1)
      rw [hb1, show (if true = false then (1 : Int32) else 0) = 0 from rfl]
      refine V.aload_n (pc := 21) hB dX10_undo_21 rfl ?_
      refine V.dup (pc := 22) hB dX10_undo_22 rfl ?_
      refine V.get (pc := 23) hB fk_Model 6 wf_X10_55 dX10_undo_23 (by decide) (hp_at (ca_Model _)) rfl ?_
      rw [show (up m 363 15 0).1 363 6 = nI (hc M) from (up_slot _ _ _ (by decide)).trans hJ.2.2.1]
      refine V.iconst (pc := 26) (v := 1) hB dX10_undo_26 rfl ?_
      refine V.isub (pc := 27) hB dX10_undo_27 ?_
      rw [show nI (hc M) - 1 = nI (hc M - 1) from nI_subN (b := 1) (by omega)]
      refine V.p_Model_f6 (pc := 28) hB wf_X10_55 dX10_undo_28 ?_
      refine V.aload_n (pc := 31) hB dX10_undo_31 rfl ?_
      refine V.get (pc := 32) hB fk_Model 4 wf_X10_22 dX10_undo_32 (by decide) (hp_at (ca_Model _)) rfl ?_
      refine V.aload_n (pc := 35) hB dX10_undo_35 rfl ?_
      refine V.get (pc := 36) hB fk_Model 6 wf_X10_55 dX10_undo_36 (by decide) (hp_at (ca_Model _)) rfl ?_
      rw [up_same]
      refine V.sipush (pc := 39) (v := 218) hB dX10_undo_39 rfl ?_
      refine V.imul (pc := 42) hB dX10_undo_42 ?_
      rw [show nI (hc M - 1) * 218 = nI ((hc M - 1) * 218) from nI_mulN _ 218]
      refine V.aload_n (pc := 43) hB dX10_undo_43 rfl ?_
      refine V.get (pc := 44) hB fk_Model 0 wf_X10_9 dX10_undo_44 (by decide) (hp_at (ca_Model _)) rfl ?_
      refine V.iconst (pc := 47) (v := 0) hB dX10_undo_47 rfl ?_
      refine V.cs (pc := 48) hB cw_X10_copies wm_X10_51 wst_X10_copies dX10_undo_48 (c_X10_copies hG (k0 := 368) (k1 := 364) (a := (hc M - 1) * 218) (b := 0) (by decide) (by decide) ca_Hrow ca_Now (by omega) (by decide) (by decide) (xb := 0) rfl rfl) (by omega) (by decide) rfl (by exact Nat.le_of_ble_eq_true rfl) (by omega) (by omega) kN (kV (fun m_48 sz h_48 => ?_)) rfl
      subst h_48
      obtain ⟨Rw, hRw⟩ : ∃ x, x = cpRow ((up (up m 363 15 0) 363 6 (nI (hc M - 1))).1 368) ((up (up m 363 15 0) 363 6 (nI (hc M - 1))).1 364) ((hc M - 1) * 218) 0 := ⟨_, rfl⟩
      rw [← hRw]
      have hRk : ∀ k, k < 218 → Rw k = m.1 368 ((hc M - 1) * 218 + k) := fun k hk => by rw [hRw, cpRow_lo hk]; rfl
      refine V.aload_n (pc := 51) hB dX10_undo_51 rfl ?_
      refine V.get (pc := 52) hB fk_Model 6 wf_X10_55 dX10_undo_52 (by decide) (hp_at (ca_Model _)) rfl ?_
      rw [setRow_cell _ _ (by decide), up_same]
      refine V.retI (pc := 55) hB dX10_undo_55 rfl (rfl) (by omega) (by omega) ?_
      refine ⟨Or.inl ⟨h0, rfl, by rw [setRow_cell _ _ (by decide), up_slot _ _ _ (by decide), up_same], hJ.undo h0 (fun k hk => ?_) ?_ ?_ ?_ ?_⟩, rfl, fun k a b c => ?_, fun f a b c => ?_⟩
      · rw [setRow_same, hRk k hk]
        exact congrArg _ (by omega)
      · rw [setRow_cell _ _ (by decide), up_same]
      · rw [setRow_cell _ _ (by decide), up_slot _ _ _ (by decide), up_slot _ _ _ (by decide)]
      · rw [setRow_cell _ _ (by decide), up_cell _ _ _ (by decide), up_cell _ _ _ (by decide)]
      · rw [setRow_cell _ _ (by decide), up_cell _ _ _ (by decide), up_cell _ _ _ (by decide)]
      · rw [setRow_cell _ _ b, up_cell _ _ _ a, up_cell _ _ _ a]
      · rw [setRow_cell _ _ (by decide), up_slot _ _ _ b, up_slot _ _ _ a]
    · have hb0 : b = false := by
        cases b
        · rfl
        · exact absurd c_16 (by decide)
      refine V.iconst (pc := 19) (v := 0) hB dX10_undo_19 rfl ?_
      refine V.retI (pc := 20) hB dX10_undo_20 rfl (rfl) (by omega) (by omega) ?_
      rw [hb0]
      exact ⟨Or.inr ⟨by have := of_decide_eq_false (hb.symm.trans hb0); omega, rfl, up_same _ _ _ _, hJ.thr⟩, MFu.thr _ _⟩
  refine V.aload_n (pc := 0) hB dX10_undo_0 rfl ?_
  refine V.aload_n (pc := 1) hB dX10_undo_1 rfl ?_
  refine V.get (pc := 2) hB fk_Model 6 wf_X10_55 dX10_undo_2 (by decide) (hp_at (ca_Model _)) rfl ?_
  rw [hJ.2.2.1]
  refine V.if_le (pc := 5) (tgt := 12) hB dX10_undo_5 (by decide) (fun c_5 => ?_) (fun c_5 => ?_)
  · have hu : (0 : Int32) = if b = true then 1 else 0 := by rw [hb, decide_eq_false (by have := (nI_leI (b := 0) (by omega) (by decide)).mp c_5; omega)]; rfl
    refine V.iconst (pc := 12) (v := 0) hB dX10_undo_12 rfl ?_
    exact join sz _ hu
  · have hu : (1 : Int32) = if b = true then 1 else 0 := by rw [hb, decide_eq_true (Nat.pos_of_ne_zero (fun z => c_5 (by rw [z]; decide)))]; rfl
    refine V.iconst (pc := 8) (v := 1) hB dX10_undo_8 rfl ?_
    refine V.goto (pc := 9) (tgt := 13) hB dX10_undo_9 (by decide) ?_
    exact join sz _ hu

set_option maxRecDepth 100000 in
set_option maxHeartbeats 1000000 in
theorem c_X10_save {g : xG} (hG : GK g) {m M : Mem} (hJ : JS m M) : CC g yX10_save (.code yX10_save cX10_save 1 (some .int)) 2 0 0 [.ref (ad g 363)] m (rI (fun v m2 => v = M.1 (LA 0) 1 ∧ m2.1 363 15 = 0 ∧ JS m2 (saveM M) ∧ MFu m m2)) noX := by
  refine CC.mk hG RX10 rfl (by decide +kernel) rfl (Nat.le_of_ble_eq_true rfl) (fun sz B hB hX => ?_)
  show V g B 0 0 _ (hp g m) sz 0 [some (.ref (ad g 363))] []
  refine V.aload_n (pc := 0) hB dX10_save_0 rfl ?_
  refine V.iconst (pc := 1) (v := 0) hB dX10_save_1 rfl ?_
  refine V.p_Model_f15 (pc := 2) hB wf_X10_44 dX10_save_2 ?_
  refine V.aload_n (pc := 5) hB dX10_save_5 rfl ?_
  refine V.get (pc := 6) hB fk_Model 0 wf_X10_9 dX10_save_6 (by decide) (hp_at (ca_Model _)) rfl ?_
  refine V.iconst (pc := 9) (v := 0) hB dX10_save_9 rfl ?_
  refine V.aload_n (pc := 10) hB dX10_save_10 rfl ?_
  refine V.get (pc := 11) hB fk_Model 3 wf_X10_19 dX10_save_11 (by decide) (hp_at (ca_Model _)) rfl ?_
  refine V.iconst (pc := 14) (v := 0) hB dX10_save_14 rfl ?_
  refine V.cs (pc := 15) hB cw_X10_copies wm_X10_51 wst_X10_copies dX10_save_15 (c_X10_copies hG (k0 := 364) (k1 := 367) (a := 0) (b := 0) (by decide) (by decide) ca_Now ca_Saved (by decide) (by decide) (by decide) (xa := 0) (xb := 0) rfl rfl) (by omega) (by decide) rfl (by exact Nat.le_of_ble_eq_true rfl) (by omega) (by omega) kN (kV (fun m_15 sz h_15 => ?_)) rfl
  subst h_15
  obtain ⟨Rw, hRw⟩ : ∃ x, x = cpRow ((up m 363 15 0).1 364) ((up m 363 15 0).1 367) 0 0 := ⟨_, rfl⟩
  rw [← hRw]
  have hRk : ∀ k, k < 218 → Rw k = m.1 364 k := fun k hk => by rw [hRw, cpRow_lo hk, Nat.zero_add]; rfl
  refine V.aload_n (pc := 18) hB dX10_save_18 rfl ?_
  refine V.iconst (pc := 19) (v := 1) hB dX10_save_19 rfl ?_
  refine V.p_Model_isSaved (pc := 20) hB wf_X10_65 dX10_save_20 rfl rfl ?_
  refine V.aload_n (pc := 23) hB dX10_save_23 rfl ?_
  refine V.get (pc := 24) hB fk_Model 0 wf_X10_9 dX10_save_24 (by decide) (hp_at (ca_Model _)) rfl ?_
  refine V.iconst (pc := 27) (v := 2) hB dX10_save_27 rfl ?_
  refine V.ialdM (pc := 28) hB (ca_Now) dX10_save_28 (ix_nI (q := 2) (N := 218) (by decide) (by decide)) ?_
  rw [up_cell _ _ _ (by decide), setRow_cell _ _ (by decide), up_cell _ _ _ (by decide)]
  refine V.retI (pc := 29) hB dX10_save_29 rfl (rfl) (by omega) (by omega) ?_
  refine ⟨hJ.1.1.1.1.1.trans ((congrArg nI hJ.1.1.2.2.1).trans hJ.2.1.1.nl.symm), ?_, hJ.save ?_ (fun k hk => ?_) ?_ ?_ ?_, rfl, fun k a b c => ?_, fun f a b c => ?_⟩
  · rw [up_slot _ _ _ (by decide), setRow_cell _ _ (by decide), up_same]
  · rw [up_cell _ _ _ (by decide), setRow_cell _ _ (by decide), up_cell _ _ _ (by decide)]
  · rw [up_cell _ _ _ (by decide), setRow_same, hRk k hk]
  · rw [up_slot _ _ _ (by decide), setRow_cell _ _ (by decide), up_slot _ _ _ (by decide)]
  · rw [up_same]
  · rw [up_cell _ _ _ (by decide), setRow_cell _ _ (by decide), up_cell _ _ _ (by decide)]
  · rw [up_cell _ _ _ a, setRow_cell _ _ c, up_cell _ _ _ a]
  · rw [up_slot _ _ _ c, setRow_cell _ _ (by decide), up_slot _ _ _ a]

set_option maxRecDepth 100000 in
set_option maxHeartbeats 1000000 in
theorem c_X10_restore {g : xG} (hG : GK g) {m M : Mem} (hJ : JS m M) : CC g yX10_restore (.code yX10_restore cX10_restore 1 (some .int)) 3 0 0 [.ref (ad g 363)] m (rI (fun v m2 => ((M.1 0 3 = 1 ∧ v = (restM M).1 (LA 0) 1 ∧ m2.1 363 15 = 0 ∧ JS m2 (restM M)) ∨ (M.1 0 3 = 0 ∧ v = 0 ∧ m2.1 363 15 = 1 ∧ JS m2 M)) ∧ MFu m m2)) noX := by
  obtain ⟨b, hb⟩ : ∃ b : Bool, M.1 0 3 = if b = true then 1 else 0 := by
    rcases hJ.saved with e | e
    · exact ⟨false, e⟩
    · exact ⟨true, e⟩
  refine CC.mk hG RX10 rfl (by decide +kernel) rfl (Nat.le_of_ble_eq_true rfl) (fun sz B hB hX => ?_)
  show V g B 0 0 _ (hp g m) sz 0 [some (.ref (ad g 363))] []
  refine V.aload_n (pc := 0) hB dX10_restore_0 rfl ?_
  refine V.aload_n (pc := 1) hB dX10_restore_1 rfl ?_
  refine V.get (pc := 2) hB fk_Model 5 wf_X10_65 dX10_restore_2 (by decide) (hp_at (ca_Model _)) rfl ?_
  rw [show m.1 363 5 = (if b = true then 1 else 0) from hJ.2.2.2.2.1.trans hb]
  refine V.cv (pc := 5) hB cw_X10_goes wm_X10_61 wi_X10_goes ws_X10_goes dX10_restore_5 (c_X10_goes hG) (hp_at (ca_Model _)) fk_Model rfl (by omega) (by decide) rfl (by exact Nat.le_of_ble_eq_true rfl) (by omega) (by omega) kN (kI (fun v_5 m_5 sz h_5 => ?_)) rfl
  obtain ⟨rfl, hm_5⟩ := h_5
  subst hm_5
  rw [thrV_b1]
  refine V.if_ne (pc := 8) (tgt := 13) hB dX10_restore_8 (by decide) (fun c_8 => ?_) (fun c_8 => ?_)
  · have hb1 : b = true := by
      cases b
      · exact absurd rfl c_8
      · rfl
    rw [hb1] at hb
    have hs : M.1 0 3 = 1 := hb
    have hG2 := hJ.2.2.2.2.2 hs
    rw [hb1, show (if true = false then (1 : Int32) else 0) = 0 from rfl]
    refine V.aload_n (pc := 13) hB dX10_restore_13 rfl ?_
    refine V.get (pc := 14) hB fk_Model 3 wf_X10_19 dX10_restore_14 (by decide) (hp_at (ca_Model _)) rfl ?_
    refine V.iconst (pc := 17) (v := 0) hB dX10_restore_17 rfl ?_
    refine V.aload_n (pc := 18) hB dX10_restore_18 rfl ?_
    refine V.get (pc := 19) hB fk_Model 0 wf_X10_9 dX10_restore_19 (by decide) (hp_at (ca_Model _)) rfl ?_
    refine V.iconst (pc := 22) (v := 0) hB dX10_restore_22 rfl ?_
    refine V.cs (pc := 23) hB cw_X10_copies wm_X10_51 wst_X10_copies dX10_restore_23 (c_X10_copies hG (k0 := 367) (k1 := 364) (a := 0) (b := 0) (by decide) (by decide) ca_Saved ca_Now (by decide) (by decide) (by decide) (xa := 0) (xb := 0) rfl rfl) (by omega) (by decide) rfl (by exact Nat.le_of_ble_eq_true rfl) (by omega) (by omega) kN (kV (fun m_23 sz h_23 => ?_)) rfl
    subst h_23
    obtain ⟨Rw, hRw⟩ : ∃ x, x = cpRow ((up m 363 15 0).1 367) ((up m 363 15 0).1 364) 0 0 := ⟨_, rfl⟩
    rw [← hRw]
    have hRk : ∀ k, k < 218 → Rw k = m.1 367 k := fun k hk => by rw [hRw, cpRow_lo hk, Nat.zero_add]; rfl
    refine V.aload_n (pc := 26) hB dX10_restore_26 rfl ?_
    refine V.iconst (pc := 27) (v := 0) hB dX10_restore_27 rfl ?_
    refine V.p_Model_f6 (pc := 28) hB wf_X10_55 dX10_restore_28 ?_
    refine V.aload_n (pc := 31) hB dX10_restore_31 rfl ?_
    refine V.get (pc := 32) hB fk_Model 0 wf_X10_9 dX10_restore_32 (by decide) (hp_at (ca_Model _)) rfl ?_
    refine V.iconst (pc := 35) (v := 2) hB dX10_restore_35 rfl ?_
    refine V.ialdM (pc := 36) hB (ca_Now) dX10_restore_36 (ix_nI (q := 2) (N := 218) (by decide) (by decide)) ?_
    rw [up_cell _ _ _ (by decide), setRow_same, hRk 2 (by decide)]
    refine V.retI (pc := 37) hB dX10_restore_37 rfl (rfl) (by omega) (by omega) ?_
    refine ⟨Or.inl ⟨hs, ?_, by rw [up_slot _ _ _ (by decide), setRow_cell _ _ (by decide), up_same], hJ.rest hs (fun k hk => ?_) ?_ ?_ ?_⟩, rfl, fun k a b c => ?_, fun f a b c => ?_⟩
    · have e1 : (restM M).1 (LA 0) 1 = M.1 (LA 2) 1 := (rest_sm hG2.1.2.1).f 1 (by omega) (by omega)
      rw [e1]
      exact hG2.1.1.1.1.trans ((congrArg nI hG2.1.2.2.1).trans hG2.1.2.1.nl.symm)
    · rw [up_cell _ _ _ (by decide), setRow_same, hRk k hk]
    · rw [up_same]
    · rw [up_slot _ _ _ (by decide), setRow_cell _ _ (by decide), up_slot _ _ _ (by decide)]
    · rw [up_cell _ _ _ (by decide), setRow_cell _ _ (by decide), up_cell _ _ _ (by decide)]
    · rw [up_cell _ _ _ a, setRow_cell _ _ b, up_cell _ _ _ a]
    · rw [up_slot _ _ _ b, setRow_cell _ _ (by decide), up_slot _ _ _ a]
  · have hb0 : b = false := by
      cases b
      · rfl
      · exact absurd c_8 (by decide)
    refine V.iconst (pc := 11) (v := 0) hB dX10_restore_11 rfl ?_
    refine V.retI (pc := 12) hB dX10_restore_12 rfl (rfl) (by omega) (by omega) ?_
    rw [hb0] at hb ⊢
    exact ⟨Or.inr ⟨hb, rfl, up_same _ _ _ _, hJ.thr⟩, MFu.thr _ _⟩
