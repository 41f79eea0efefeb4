/-! the line: its numbers, its length, its letters -/
set_option maxRecDepth 100000 in
set_option maxHeartbeats 1000000 in
theorem c_J5_append_c97b9 {g : xG} (hG : GK g) {z : xE} (hE : GE g z) {m : Mem} {n : Nat} (hs : SW g m n) (hn : n < 80) {a : Nat} (ha : a ≤ 99) {v : Int32} (hv : n99 a v) : CC g yJ5_append_c97b9 (.code yJ5_append_c97b9 cJ5_append_c97b9 4 (some (.object "java/lang/AbstractStringBuilder"))) 5 1 200 [.ref (ad g 360), .int v] m (rR g (fun a2 m2 => a2 = 360 ∧ SW g m2 (n + (txtI v).length) ∧ SF m m2 n ∧ ∀ j, j < (txtI v).length → m2.1 361 (n + j) = (txtI v).getD j 0)) noX := by
  have h2 := hs.2.2.1
  have hl3 := txt_len ha hv
  refine CC.mk hG RJ5 rfl (by decide +kernel) rfl (Nat.le_of_ble_eq_true rfl) (fun sz B hB hX => ?_)
  show V g B 0 0 _ (hp g m) sz 0 [some (.ref (ad g 360)), some (.int v), none, none] []
  refine V.aload_n (pc := 0) hB dJ5_append_c97b9_0 rfl ?_
  refine V.get (pc := 1) hB fk_SB 3 wf_J5_79 dJ5_append_c97b9_1 (by decide) (hp_at (ca_SB _)) rfl ?_
  rw [hs.1]
  refine V.istore_n (pc := 4) hB dJ5_append_c97b9_4 (by decide) rfl ?_
  refine V.iload_n (pc := 5) hB dJ5_append_c97b9_5 rfl ?_
  refine V.iload_n (pc := 6) hB dJ5_append_c97b9_6 rfl ?_
  refine V.cs (pc := 7) hB cw_J6_stringSize_0f7a4 wm_J5_245 wst_J6_stringSize_0f7a4 dJ5_append_c97b9_7 (c_J6_stringSize_0f7a4 hG ha hv) (by omega) (by decide) rfl (by exact Nat.le_of_ble_eq_true rfl) (by omega) (by omega) kN (kI (fun v_7 m_7 sz h_7 => ?_)) rfl
  obtain ⟨rfl, hm_7⟩ := h_7
  obtain rfl := hm_7.symm
  refine V.iadd (pc := 10) hB dJ5_append_c97b9_10 ?_
  rw [nI_add]
  refine V.istore_n (pc := 11) hB dJ5_append_c97b9_11 (by decide) rfl ?_
  refine V.aload_n (pc := 12) hB dJ5_append_c97b9_12 rfl ?_
  refine V.iload_n (pc := 13) hB dJ5_append_c97b9_13 rfl ?_
  refine V.cp (pc := 14) (C := RJ4) hB cw_J5_ensureCapacityInternal_d00df wm_J5_100 wsm_J5_ensureCapacityInternal_d00df wpr_J5_ensureCapacityInternal_d00df wi_J5_ensureCapacityInternal_d00df dJ5_append_c97b9_14 (c_J5_ensureCapacityInternal_d00df hG hs (q := n + (txtI v).length) (by omega)) (RC.hp hB (hp_at (ca_SB _)) rfl) (by omega) (by decide) rfl (by exact Nat.le_of_ble_eq_true rfl) (by omega) (by omega) (kV (fun m_14 sz h_14 => ?_)) rfl
  obtain ⟨hs2, hcap, hF⟩ := h_14
  refine V.aload_n (pc := 17) hB dJ5_append_c97b9_17 rfl ?_
  refine V.cu (pc := 18) (C := RJ4) hB cw_J5_isLatin1_aae02 wm_J5_83 wsm_J5_isLatin1_aae02 ⟨rfl, rfl⟩ wi_J5_isLatin1_aae02 wse_J5_isLatin1_aae02 dJ5_append_c97b9_18 (c_J5_isLatin1_aae02 hG hE) (RC.hp hB (hp_at (ca_SB _)) rfl) (by omega) (by decide) rfl (by exact Nat.le_of_ble_eq_true rfl) (by omega) (by omega) (kI (fun v_18 m_18 sz h_18 => ?_)) rfl
  obtain ⟨rfl, hm_18⟩ := h_18
  obtain rfl := hm_18.symm
  refine V.if_eq (pc := 21) (tgt := 37) hB dJ5_append_c97b9_21 (by decide) (fun c_21 => ?_) (fun c_21 => ?_)
  · exact absurd c_21 (by decide)
  · refine V.iload_n (pc := 24) hB dJ5_append_c97b9_24 rfl ?_
    refine V.iload_n (pc := 25) hB dJ5_append_c97b9_25 rfl ?_
    refine V.aload_n (pc := 26) hB dJ5_append_c97b9_26 rfl ?_
    refine V.get (pc := 27) hB fk_SB 0 wf_J5_15 dJ5_append_c97b9_27 (by decide) (hp_at (ca_SB _)) rfl ?_
    have hgc : CC g yJ6_getChars_ba4f3 (.code yJ6_getChars_ba4f3 cJ6_getChars_ba4f3 7 (some .int)) 1 0 0 [.int v, .int (nI (n + (txtI v).length)), .ref (ad g m_14.2.1)] m_14 (rI (fun _ m2 => GC g m_14 m2 n (n + (txtI v).length) (txtI v))) noX := by
      rcases hv with ⟨h1, h2⟩ | ⟨h1, h2, h3⟩
      · subst h1
        rw [txt_pos rfl h2 ha] at hcap ⊢
        exact c_getChars_pos hG hE hs2 ha h2 hcap (by omega)
      · subst h1
        rw [txt_neg rfl h2 ha] at hcap ⊢
        exact c_getChars_neg hG hE hs2 ha h2 hcap (by rw [List.length_cons]; omega)
    refine V.cs (pc := 30) hB cw_J6_getChars_ba4f3 wm_J5_248 wst_J6_getChars_ba4f3 dJ5_append_c97b9_30 (hgc) (by omega) (by decide) rfl (by exact Nat.le_of_ble_eq_true rfl) (by omega) (by omega) kN (kI (fun v_30 m_30 sz h_30 => ?_)) rfl
    refine V.pop (pc := 33) hB dJ5_append_c97b9_33 rfl ?_
    refine V.goto (pc := 34) (tgt := 48) hB dJ5_append_c97b9_34 (by decide) ?_
    refine V.aload_n (pc := 48) hB dJ5_append_c97b9_48 rfl ?_
    refine V.iload_n (pc := 49) hB dJ5_append_c97b9_49 rfl ?_
    refine V.p_SB_count (pc := 50) hB wf_J5_79 dJ5_append_c97b9_50 ?_
    refine V.aload_n (pc := 53) hB dJ5_append_c97b9_53 rfl ?_
    refine V.retR (pc := 54) hB dJ5_append_c97b9_54 rfl (Or.inl ⟨_, rfl⟩) (by omega) (by omega) ?_
    have hfin := h_30.app hcap
    exact ⟨rfl, hfin.1, SF.trans (hF.mono hs.2.1) hfin.2.1 (Nat.le_refl n), hfin.2.2⟩

set_option maxRecDepth 100000 in
set_option maxHeartbeats 1000000 in
theorem c_J4_append_bf812 {g : xG} (hG : GK g) {z : xE} (hE : GE g z) {m : Mem} {n : Nat} (hs : SW g m n) (hn : n < 80) {a : Nat} (ha : a ≤ 99) {v : Int32} (hv : n99 a v) : CC g yJ4_append_bf812 (.code yJ4_append_bf812 cJ4_append_bf812 2 (some (.object "java/lang/StringBuilder"))) 6 1 200 [.ref (ad g 360), .int v] m (rR g (fun a2 m2 => a2 = 360 ∧ SW g m2 (n + (txtI v).length) ∧ SF m m2 n ∧ ∀ j, j < (txtI v).length → m2.1 361 (n + j) = (txtI v).getD j 0)) noX := by
  refine CC.mk hG RJ4 rfl (by decide +kernel) rfl (Nat.le_of_ble_eq_true rfl) (fun sz B hB hX => ?_)
  show V g B 0 0 _ (hp g m) sz 0 [some (.ref (ad g 360)), some (.int v)] []
  refine V.aload_n (pc := 0) hB dJ4_append_bf812_0 rfl ?_
  refine V.iload_n (pc := 1) hB dJ4_append_bf812_1 rfl ?_
  refine V.csu (pc := 2) (C := RJ4) hB (ci := 9) rfl cw_J5_append_c97b9 wm_J4_53 wsm_J5_append_c97b9 wsp_J4 (by decide +kernel) wi_J5_append_c97b9 dJ4_append_bf812_2 (c_J5_append_c97b9 hG hE hs hn ha hv) (RC.hp hB (hp_at (ca_SB _)) rfl) (by omega) (by decide) rfl (by exact Nat.le_of_ble_eq_true rfl) (by omega) (by omega) (kR (fun v_2 m_2 sz h_2 => ?_)) rfl
  obtain ⟨rfl, hq2, hq3, hq4⟩ := h_2
  refine V.pop (pc := 5) hB dJ4_append_bf812_5 rfl ?_
  refine V.aload_n (pc := 6) hB dJ4_append_bf812_6 rfl ?_
  refine V.retR (pc := 7) hB dJ4_append_bf812_7 rfl (Or.inl ⟨_, rfl⟩) (by omega) (by omega) ?_
  exact ⟨rfl, hq2, hq3, hq4⟩

set_option maxRecDepth 100000 in
set_option maxHeartbeats 1000000 in
theorem c_J5_setLength_d00df {g : xG} (hG : GK g) {m : Mem} {n : Nat} (hs : SW g m n) : CC g yJ5_setLength_d00df (.code yJ5_setLength_d00df cJ5_setLength_d00df 2 none) 5 1 200 [.ref (ad g 360), .int 0] m (rV (fun m2 => SW g m2 0 ∧ SF m m2 0)) noX := by
  refine CC.mk hG RJ5 rfl (by decide +kernel) rfl (Nat.le_of_ble_eq_true rfl) (fun sz B hB hX => ?_)
  show V g B 0 0 _ (hp g m) sz 0 [some (.ref (ad g 360)), some (.int 0)] []
  refine V.iload_n (pc := 0) hB dJ5_setLength_d00df_0 rfl ?_
  refine V.if_ge (pc := 1) (tgt := 13) hB dJ5_setLength_d00df_1 (by decide) (fun c_1 => ?_) (fun c_1 => ?_)
  · refine V.aload_n (pc := 13) hB dJ5_setLength_d00df_13 rfl ?_
    refine V.iload_n (pc := 14) hB dJ5_setLength_d00df_14 rfl ?_
    refine V.cp (pc := 15) (C := RJ4) hB cw_J5_ensureCapacityInternal_d00df wm_J5_100 wsm_J5_ensureCapacityInternal_d00df wpr_J5_ensureCapacityInternal_d00df wi_J5_ensureCapacityInternal_d00df dJ5_setLength_d00df_15 (c_J5_ensureCapacityInternal_d00df hG hs (q := 0) (by omega)) (RC.hp hB (hp_at (ca_SB _)) rfl) (by omega) (by decide) rfl (by exact Nat.le_of_ble_eq_true rfl) (by omega) (by omega) (kV (fun m_15 sz h_15 => ?_)) rfl
    obtain ⟨hs2, hcap, hF⟩ := h_15
    refine V.aload_n (pc := 18) hB dJ5_setLength_d00df_18 rfl ?_
    refine V.get (pc := 19) hB fk_SB 3 wf_J5_79 dJ5_setLength_d00df_19 (by decide) (hp_at (ca_SB _)) rfl ?_
    rw [hs2.1]
    refine V.iload_n (pc := 22) hB dJ5_setLength_d00df_22 rfl ?_
    refine V.icmp_ge (pc := 23) (tgt := 63) hB dJ5_setLength_d00df_23 (by decide) (fun c_23 => ?_) (fun c_23 => ?_)
    · refine V.aload_n (pc := 63) hB dJ5_setLength_d00df_63 rfl ?_
      refine V.get (pc := 64) hB fk_SB 3 wf_J5_79 dJ5_setLength_d00df_64 (by decide) (hp_at (ca_SB _)) rfl ?_
      rw [hs2.1]
      refine V.iload_n (pc := 67) hB dJ5_setLength_d00df_67 rfl ?_
      refine V.icmp_le (pc := 68) (tgt := 76) hB dJ5_setLength_d00df_68 (by decide) (fun c_68 => ?_) (fun c_68 => ?_)
      · refine V.aload_n (pc := 76) hB dJ5_setLength_d00df_76 rfl ?_
        refine V.iload_n (pc := 77) hB dJ5_setLength_d00df_77 rfl ?_
        refine V.p_SB_count (pc := 78) hB wf_J5_79 dJ5_setLength_d00df_78 ?_
        refine V.retV (pc := 81) hB dJ5_setLength_d00df_81 rfl (by omega) (by omega) ?_
        have hq : ∀ M : Mem, M.2 = m_15.2 → (∀ k, k ≠ 360 → M.1 k = m_15.1 k) → M.1 360 3 = 0 → SW g M 0 ∧ SF m M 0 := fun M e1 e2 e3 => ⟨⟨e3, Nat.zero_le _, by rw [e1]; exact hs2.2.2.1, by rw [e1]; exact hs2.2.2.2.1, fun j hj => by rw [e2 361 (by decide)]; exact hs2.by j (by rw [e1] at hj; exact hj), by rw [e1]; exact hs2.nx⟩, ⟨fun k a b => (e2 k a).trans (hF.1 k a b), fun j hj => absurd hj (Nat.not_lt_zero j)⟩⟩
        first
        | exact hq _ rfl (fun k a => up_cell _ _ _ a) (up_same _ _ _ _)
        | exact hq _ rfl (fun k a => (up_cell _ _ _ a).trans (up_cell _ _ _ a)) (up_same _ _ _ _)
      · refine V.aload_n (pc := 71) hB dJ5_setLength_d00df_71 rfl ?_
        refine V.iconst (pc := 72) (v := 1) hB dJ5_setLength_d00df_72 rfl ?_
        refine V.p_SB_maybeLatin1 (pc := 73) hB wf_J5_73 dJ5_setLength_d00df_73 rfl rfl ?_
        refine V.aload_n (pc := 76) hB dJ5_setLength_d00df_76 rfl ?_
        refine V.iload_n (pc := 77) hB dJ5_setLength_d00df_77 rfl ?_
        refine V.p_SB_count (pc := 78) hB wf_J5_79 dJ5_setLength_d00df_78 ?_
        refine V.retV (pc := 81) hB dJ5_setLength_d00df_81 rfl (by omega) (by omega) ?_
        have hq : ∀ M : Mem, M.2 = m_15.2 → (∀ k, k ≠ 360 → M.1 k = m_15.1 k) → M.1 360 3 = 0 → SW g M 0 ∧ SF m M 0 := fun M e1 e2 e3 => ⟨⟨e3, Nat.zero_le _, by rw [e1]; exact hs2.2.2.1, by rw [e1]; exact hs2.2.2.2.1, fun j hj => by rw [e2 361 (by decide)]; exact hs2.by j (by rw [e1] at hj; exact hj), by rw [e1]; exact hs2.nx⟩, ⟨fun k a b => (e2 k a).trans (hF.1 k a b), fun j hj => absurd hj (Nat.not_lt_zero j)⟩⟩
        first
        | exact hq _ rfl (fun k a => up_cell _ _ _ a) (up_same _ _ _ _)
        | exact hq _ rfl (fun k a => (up_cell _ _ _ a).trans (up_cell _ _ _ a)) (up_same _ _ _ _)
    · exact absurd (nI_pos' (by have := hs2.2.1; have := hs2.2.2.1; omega)) c_23
  · exact absurd (show (0 : Int32) ≤ 0 by decide) c_1

set_option maxRecDepth 100000 in
set_option maxHeartbeats 1000000 in
theorem c_J4_setLength_d00df {g : xG} (hG : GK g) {m : Mem} {n : Nat} (hs : SW g m n) : CC g yJ4_setLength_d00df (.code yJ4_setLength_d00df cJ4_setLength_d00df 2 none) 6 1 200 [.ref (ad g 360), .int 0] m (rV (fun m2 => SW g m2 0 ∧ SF m m2 0)) noX := by
  refine CC.mk hG RJ4 rfl (by decide +kernel) rfl (Nat.le_of_ble_eq_true rfl) (fun sz B hB hX => ?_)
  show V g B 0 0 _ (hp g m) sz 0 [some (.ref (ad g 360)), some (.int 0)] []
  refine V.aload_n (pc := 0) hB dJ4_setLength_d00df_0 rfl ?_
  refine V.iload_n (pc := 1) hB dJ4_setLength_d00df_1 rfl ?_
  refine V.csu (pc := 2) (C := RJ4) hB (ci := 9) rfl cw_J5_setLength_d00df wm_J4_333 wsm_J5_setLength_d00df wsp_J4 (by decide +kernel) wi_J5_setLength_d00df dJ4_setLength_d00df_2 (c_J5_setLength_d00df hG hs) (RC.hp hB (hp_at (ca_SB _)) rfl) (by omega) (by decide) rfl (by exact Nat.le_of_ble_eq_true rfl) (by omega) (by omega) (kV (fun m_2 sz h_2 => ?_)) rfl
  refine V.retV (pc := 5) hB dJ4_setLength_d00df_5 rfl (by omega) (by omega) ?_
  exact h_2

set_option maxRecDepth 100000 in
set_option maxHeartbeats 1000000 in
theorem c_J5_length_8abf5 {g : xG} (hG : GK g) {m : Mem} {n : Nat} (hs : SW g m n) : CC g yJ5_length_8abf5 (.code yJ5_length_8abf5 cJ5_length_8abf5 1 (some .int)) 1 0 0 [.ref (ad g 360)] m (rI (fun v m2 => v = nI n ∧ m2 = m)) noX := by
  refine CC.mk hG RJ5 rfl (by decide +kernel) rfl (Nat.le_of_ble_eq_true rfl) (fun sz B hB hX => ?_)
  show V g B 0 0 _ (hp g m) sz 0 [some (.ref (ad g 360))] []
  refine V.aload_n (pc := 0) hB dJ5_length_8abf5_0 rfl ?_
  refine V.get (pc := 1) hB fk_SB 3 wf_J5_79 dJ5_length_8abf5_1 (by decide) (hp_at (ca_SB _)) rfl ?_
  rw [hs.1]
  refine V.retI (pc := 4) hB dJ5_length_8abf5_4 rfl (rfl) (by omega) (by omega) ?_
  exact ⟨rfl, rfl⟩

set_option maxRecDepth 100000 in
set_option maxHeartbeats 1000000 in
theorem c_J4_length_8abf5 {g : xG} (hG : GK g) {m : Mem} {n : Nat} (hs : SW g m n) : CC g yJ4_length_8abf5 (.code yJ4_length_8abf5 cJ4_length_8abf5 1 (some .int)) 2 0 0 [.ref (ad g 360)] m (rI (fun v m2 => v = nI n ∧ m2 = m)) noX := by
  refine CC.mk hG RJ4 rfl (by decide +kernel) rfl (Nat.le_of_ble_eq_true rfl) (fun sz B hB hX => ?_)
  show V g B 0 0 _ (hp g m) sz 0 [some (.ref (ad g 360))] []
  refine V.aload_n (pc := 0) hB dJ4_length_8abf5_0 rfl ?_
  refine V.csu (pc := 1) (C := RJ4) hB (ci := 9) rfl cw_J5_length_8abf5 wm_J4_343 wsm_J5_length_8abf5 wsp_J4 (by decide +kernel) wi_J5_length_8abf5 dJ4_length_8abf5_1 (c_J5_length_8abf5 hG hs) (RC.hp hB (hp_at (ca_SB _)) rfl) (by omega) (by decide) rfl (by exact Nat.le_of_ble_eq_true rfl) (by omega) (by omega) (kI (fun v_1 m_1 sz h_1 => ?_)) rfl
  obtain ⟨rfl, hm_1⟩ := h_1
  obtain rfl := hm_1.symm
  refine V.retI (pc := 4) hB dJ4_length_8abf5_4 rfl (rfl) (by omega) (by omega) ?_
  exact ⟨rfl, rfl⟩

theorem ch_b : ∀ c, c < 128 → ((nI c &&& 255).toUInt32 % 65536).toInt32 = nI c := by
  have h : ∀ c : Fin 128, ((nI c.1 &&& 255).toUInt32 % 65536).toInt32 = nI c.1 := by decide +kernel
  intro c hc
  exact h ⟨c, hc⟩
theorem chn_b : ∀ c, c < 128 → narrow .char (.int (nI c)) = .int (nI c) := by
  intro c hc
  rw [← ch_b c hc]
  exact nar_c16 _

set_option maxRecDepth 100000 in
set_option maxHeartbeats 1000000 in
theorem c_J5_charAt_5068e {g : xG} (hG : GK g) {z : xE} (hE : GE g z) {m : Mem} {n : Nat} (hs : SW g m n) {q c : Nat} (hq : q < n) (hc : m.1 361 q = nI c) (hc8 : c < 128) : CC g yJ5_charAt_5068e (.code yJ5_charAt_5068e cJ5_charAt_5068e 5 (some .char)) 4 0 0 [.ref (ad g 360), .int (nI q)] m (rI (fun v m2 => v = nI c ∧ m2 = m)) noX := by
  have h2 := hs.2.2.1
  have h1 := hs.2.1
  refine CC.mk hG RJ5 rfl (by decide +kernel) rfl (Nat.le_of_ble_eq_true rfl) (fun sz B hB hX => ?_)
  show V g B 0 0 _ (hp g m) sz 0 [some (.ref (ad g 360)), some (.int (nI q)), none, none, none] []
  refine V.aload_n (pc := 0) hB dJ5_charAt_5068e_0 rfl ?_
  refine V.get (pc := 1) hB fk_SB 1 wf_J5_22 dJ5_charAt_5068e_1 (by decide) (hp_at (ca_SB _)) rfl ?_
  refine V.istore_n (pc := 4) hB dJ5_charAt_5068e_4 (by decide) rfl ?_
  refine V.aload_n (pc := 5) hB dJ5_charAt_5068e_5 rfl ?_
  refine V.get (pc := 6) hB fk_SB 0 wf_J5_15 dJ5_charAt_5068e_6 (by decide) (hp_at (ca_SB _)) rfl ?_
  refine V.astore_n (pc := 9) hB dJ5_charAt_5068e_9 (by decide) rfl ?_
  refine V.aload_n (pc := 10) hB dJ5_charAt_5068e_10 rfl ?_
  refine V.get (pc := 11) hB fk_SB 3 wf_J5_79 dJ5_charAt_5068e_11 (by decide) (hp_at (ca_SB _)) rfl ?_
  rw [hs.1]
  refine V.aload_n (pc := 14) hB dJ5_charAt_5068e_14 rfl ?_
  refine V.alen (pc := 15) (t := 4) (v := nI (m).2.2) hB rfl dJ5_charAt_5068e_15 (hp_sb (SW.none hs)) rfl ?_
  refine V.iload_n (pc := 16) hB dJ5_charAt_5068e_16 rfl ?_
  refine V.ishr (pc := 17) hB dJ5_charAt_5068e_17 ?_
  rw [sb_shr0]
  refine V.cs (pc := 18) hB cw_J9_min_7cf53 wm_J5_138 wst_J9_min_7cf53 dJ5_charAt_5068e_18 (c_J9_min_7cf53 hG) (by omega) (by decide) rfl (by exact Nat.le_of_ble_eq_true rfl) (by omega) (by omega) kN (kI (fun v_18 m_18 sz h_18 => ?_)) rfl
  obtain ⟨rfl, hm_18⟩ := h_18
  obtain rfl := hm_18.symm
  rw [minN (by omega) (by omega), Nat.min_eq_left hs.2.1]
  refine V.istore (pc := 21) hB dJ5_charAt_5068e_21 (by decide) rfl ?_
  refine V.iload_n (pc := 23) hB dJ5_charAt_5068e_23 rfl ?_
  refine V.iload (pc := 24) hB dJ5_charAt_5068e_24 rfl ?_
  refine V.cs (pc := 26) hB cw_J0_checkIndex_df160 wm_J5_144 wst_J0_checkIndex_df160 dJ5_charAt_5068e_26 (c_J0_checkIndex_df160 hG hE hq (by omega)) (by omega) (by decide) rfl (by exact Nat.le_of_ble_eq_true rfl) (by omega) (by omega) kN (kV (fun m_26 sz h_26 => ?_)) rfl
  obtain rfl := h_26.symm
  refine V.iload_n (pc := 29) hB dJ5_charAt_5068e_29 rfl ?_
  refine V.if_ne (pc := 30) (tgt := 42) hB dJ5_charAt_5068e_30 (by decide) (fun c_30 => ?_) (fun c_30 => ?_)
  · exact absurd rfl c_30
  · refine V.aload_n (pc := 33) hB dJ5_charAt_5068e_33 rfl ?_
    refine V.iload_n (pc := 34) hB dJ5_charAt_5068e_34 rfl ?_
    refine V.bald (pc := 35) hB dJ5_charAt_5068e_35 (hp_sb (SW.none hs)) (ix_nI (show q < m.2.2 by omega) (by omega)).2 ?_
    rw [(ix_nI (show q < m.2.2 by omega) (by omega)).1]
    rw [hc]
    refine V.sipush (pc := 36) (v := 255) hB dJ5_charAt_5068e_36 rfl ?_
    refine V.iand (pc := 39) hB dJ5_charAt_5068e_39 ?_
    refine V.i2c (pc := 40) hB dJ5_charAt_5068e_40 ?_
    rw [ch_b c hc8]
    refine V.retI (pc := 41) hB dJ5_charAt_5068e_41 rfl (chn_b c hc8) (by omega) (by omega) ?_
    exact ⟨rfl, rfl⟩

set_option maxRecDepth 100000 in
set_option maxHeartbeats 1000000 in
theorem c_J4_charAt_5068e {g : xG} (hG : GK g) {z : xE} (hE : GE g z) {m : Mem} {n : Nat} (hs : SW g m n) {q c : Nat} (hq : q < n) (hc : m.1 361 q = nI c) (hc8 : c < 128) : CC g yJ4_charAt_5068e (.code yJ4_charAt_5068e cJ4_charAt_5068e 2 (some .char)) 5 0 0 [.ref (ad g 360), .int (nI q)] m (rI (fun v m2 => v = nI c ∧ m2 = m)) noX := by
  refine CC.mk hG RJ4 rfl (by decide +kernel) rfl (Nat.le_of_ble_eq_true rfl) (fun sz B hB hX => ?_)
  show V g B 0 0 _ (hp g m) sz 0 [some (.ref (ad g 360)), some (.int (nI q))] []
  refine V.aload_n (pc := 0) hB dJ4_charAt_5068e_0 rfl ?_
  refine V.iload_n (pc := 1) hB dJ4_charAt_5068e_1 rfl ?_
  refine V.csu (pc := 2) (C := RJ4) hB (ci := 9) rfl cw_J5_charAt_5068e wm_J4_329 wsm_J5_charAt_5068e wsp_J4 (by decide +kernel) wi_J5_charAt_5068e dJ4_charAt_5068e_2 (c_J5_charAt_5068e hG hE hs hq hc hc8) (RC.hp hB (hp_at (ca_SB _)) rfl) (by omega) (by decide) rfl (by exact Nat.le_of_ble_eq_true rfl) (by omega) (by omega) (kI (fun v_2 m_2 sz h_2 => ?_)) rfl
  obtain ⟨rfl, hm_2⟩ := h_2
  obtain rfl := hm_2.symm
  refine V.retI (pc := 5) hB dJ4_charAt_5068e_5 rfl (chn_b c hc8) (by omega) (by omega) ?_
  exact ⟨rfl, rfl⟩

/-- the builder holds the text l -/
def LT (g : xG) (m : Mem) (l : List Int32) : Prop := SW g m l.length ∧ ∀ j, j < l.length → m.1 361 j = l.getD j 0
def LF (m m2 : Mem) : Prop := ∀ k, k ≠ 360 → k ≠ 361 → m2.1 k = m.1 k
theorem LT.app {g : xG} {m m2 : Mem} {l x : List Int32} (h : LT g m l) (h1 : SW g m2 (l.length + x.length)) (h2 : SF m m2 l.length) (h3 : ∀ j, j < x.length → m2.1 361 (l.length + j) = x.getD j 0) : LT g m2 (l ++ x) := by
  refine ⟨by rw [List.length_append]; exact h1, fun j hj => ?_⟩
  rw [List.length_append] at hj
  by_cases e : j < l.length
  · rw [h2.2 j e, h.2 j e]; simp [List.getD, List.getElem?_append_left e]
  · obtain ⟨y, rfl⟩ : ∃ y, j = l.length + y := ⟨j - l.length, by omega⟩
    rw [h3 y (by omega)]; simp [List.getD, List.getElem?_append_right]
theorem LT.one {g : xG} {m m2 : Mem} {l : List Int32} {c : Nat} (h : LT g m l) (h1 : SW g m2 (l.length + 1)) (h2 : SF m m2 l.length) (h3 : m2.1 361 l.length = nI c) : LT g m2 (l ++ [nI c]) :=
  h.app (x := [nI c]) h1 h2 (fun j hj => by have : j = 0 := by have : j < 1 := hj; omega
                                            subst this; exact h3)
/-- a layer's text; a lake's -/
def lyT (K T S : Nat → Int32) (y : Nat) : List Int32 := (if y = 0 then [] else [32]) ++ txtI (K y) ++ [47] ++ txtI (T y) ++ (if 10 ≤ S y then [33] else [])
def lnT (K T S : Nat → Int32) : Nat → List Int32 | 0 => [] | y + 1 => lnT K T S y ++ lyT K T S y
/-- the layers' values lie in their bounds -/
def VB (K T : Nat → Int32) (N : Nat) : Prop := ∀ y, y < N → (1 ≤ K y ∧ K y ≤ 50) ∧ (-40 ≤ T y ∧ T y ≤ 0)
theorem VB.k {K T : Nat → Int32} {N y : Nat} (h : VB K T N) (hy : y < N) : ∃ a, a ≤ 99 ∧ n99 a (K y) := num99 (Int32.le_trans (by decide) (h y hy).1.1) (Int32.le_trans (h y hy).1.2 (by decide))
theorem VB.t {K T : Nat → Int32} {N y : Nat} (h : VB K T N) (hy : y < N) : ∃ a, a ≤ 99 ∧ n99 a (T y) := num99 (Int32.le_trans (by decide) (h y hy).2.1) (Int32.le_trans (h y hy).2.2 (by decide))
theorem lnT_len {K T S : Nat → Int32} {N : Nat} (h : VB K T N) : ∀ y, y ≤ N → (lnT K T S y).length ≤ 9 * y
  | 0, _ => Nat.le_refl 0
  | y + 1, hy => by
    have ih := lnT_len (S := S) h y (by omega)
    obtain ⟨a, ha, hv⟩ := h.k (y := y) (by omega)
    obtain ⟨b, hb, hw⟩ := h.t (y := y) (by omega)
    have l1 := txt_len ha hv
    have l2 := txt_len hb hw
    show (lnT K T S y ++ lyT K T S y).length ≤ 9 * (y + 1)
    have l3 : (lyT K T S y).length ≤ 9 := by
      unfold lyT
      simp only [List.length_append, List.length_cons, List.length_nil]
      split <;> split <;> simp <;> omega
    rw [List.length_append]; omega

set_option maxRecDepth 100000 in
set_option maxHeartbeats 1000000 in
theorem c_X5_writeTo {g : xG} (hG : GK g) {z : xE} (hE : GE g z) {i j : Nat} (hi : i < 11) (hj : j < 5) {m : Mem} (hs : SW g m 0) {N : Nat} (hN : LN m i j N) (hVB : VB (m.1 (LK i j + 1)) (m.1 (LK i j + 2)) N) : CC g yX5_writeTo (.code yX5_writeTo cX5_writeTo 3 none) 7 40 8000 [.ref (ad g (LK i j)), .ref (ad g 360)] m (rV (fun m2 => LT g m2 (lnT (m.1 (LK i j + 1)) (m.1 (LK i j + 2)) (m.1 (LK i j + 3)) N) ∧ LF m m2)) noX := by
  have hN8 := hN.2
  have hlk : LK i j + 3 < 360 := by unfold LK LA; split <;> omega
  have hlen := lnT_len (S := (m.1 (LK i j + 3))) hVB
  refine CC.mk hG RX5 rfl (by decide +kernel) rfl (Nat.le_of_ble_eq_true rfl) (fun sz B hB hX => ?_)
  show V g B 0 0 _ (hp g m) sz 0 [some (.ref (ad g (LK i j))), some (.ref (ad g 360)), none] []
  have tail : ∀ q, q < N → ∀ (sz : Nat) (M : Mem), LT g M (lnT (m.1 (LK i j + 1)) (m.1 (LK i j + 2)) (m.1 (LK i j + 3)) q ++ (if q = 0 then [] else [32])) → LF m M → (lnT (m.1 (LK i j + 1)) (m.1 (LK i j + 2)) (m.1 (LK i j + 3)) q ++ (if q = 0 then [] else [32])).length ≤ 9 * q + 1 → (∀ (sz : Nat) (M : Mem), LT g M (lnT (m.1 (LK i j + 1)) (m.1 (LK i j + 2)) (m.1 (LK i j + 3)) (q + 1)) → LF m M → V g B (5 * (q + 1)) (1000 * (q + 1)) (QM g B 40 8000 (rV (fun m2 => LT g m2 (lnT (m.1 (LK i j + 1)) (m.1 (LK i j + 2)) (m.1 (LK i j + 3)) N) ∧ LF m m2)) noX) (hp g (M)) sz 2 [some (.ref (ad g (LK i j))), some (.ref (ad g 360)), some (.int (nI (q + 1)))] []) → V g B (5 * q + 1) (1000 * q + 200) (QM g B 40 8000 (rV (fun m2 => LT g m2 (lnT (m.1 (LK i j + 1)) (m.1 (LK i j + 2)) (m.1 (LK i j + 3)) N) ∧ LF m m2)) noX) (hp g (M)) sz 21 [some (.ref (ad g (LK i j))), some (.ref (ad g 360)), some (.int (nI q))] [] := by
    intro q hlt sz M hL0 hLF hl0 nxt
    obtain ⟨ka, hka, hkv⟩ := hVB.k hlt
    obtain ⟨ta, hta, htv⟩ := hVB.t hlt
    have hk3 := txt_len hka hkv
    have ht3 := txt_len hta htv
    refine V.aload_n (pc := 21) hB dX5_writeTo_21 rfl ?_
    refine V.aload_n (pc := 22) hB dX5_writeTo_22 rfl ?_
    refine V.get (pc := 23) hB fk_Lake 0 wf_X5_9 dX5_writeTo_23 (by decide) (hp_at (ca_Lake (by omega) (by omega) _)) rfl ?_
    refine V.iload_n (pc := 26) hB dX5_writeTo_26 rfl ?_
    refine V.ialdM (pc := 27) hB (ca_LThick (by omega) (by omega)) dX5_writeTo_27 (ix_nI (by omega) (by decide)) ?_
    rw [hLF (LK i j + 1) (by omega) (by omega)]
    refine V.cv (pc := 28) hB cw_J4_append_bf812 wm_X5_84 wi_J4_append_bf812 ws_J4_append_bf812 dX5_writeTo_28 (c_J4_append_bf812 hG hE hL0.1 (by omega) hka hkv) (hp_at (ca_SB _)) fk_SB rfl (by omega) (by decide) rfl (by exact Nat.le_of_ble_eq_true rfl) (by omega) (by omega) kN (kR (fun v_28 m_28 sz h_28 => ?_)) rfl
    obtain ⟨rfl, hq2, hq3, hq4⟩ := h_28
    have hL1 := hL0.app hq2 hq3 hq4
    have hF1 : LF m m_28 := fun k a b => (hq3.1 k a b).trans (hLF k a b)
    have hl1 : ((lnT (m.1 (LK i j + 1)) (m.1 (LK i j + 2)) (m.1 (LK i j + 3)) q ++ (if q = 0 then [] else [32])) ++ txtI ((m.1 (LK i j + 1)) q)).length ≤ 9 * q + 4 := by rw [List.length_append]; omega
    refine V.pop (pc := 31) hB dX5_writeTo_31 rfl ?_
    refine V.aload_n (pc := 32) hB dX5_writeTo_32 rfl ?_
    refine V.bipush (pc := 33) (v := 47) hB dX5_writeTo_33 rfl ?_
    refine V.cv (pc := 35) hB cw_J4_append_cf468 wm_X5_78 wi_J4_append_cf468 ws_J4_append_cf468 dX5_writeTo_35 (c_J4_append_cf468 hG hE hL1.1 (by omega) (c := 47) (by decide)) (hp_at (ca_SB _)) fk_SB rfl (by omega) (by decide) rfl (by exact Nat.le_of_ble_eq_true rfl) (by omega) (by omega) kN (kR (fun v_35 m_35 sz h_35 => ?_)) rfl
    obtain ⟨rfl, hr2, hr3, hr4⟩ := h_35
    have hL2 := hL1.one hr2 hr3 hr4
    have hF2 : LF m m_35 := fun k a b => (hr3.1 k a b).trans (hF1 k a b)
    have hl2 : ((lnT (m.1 (LK i j + 1)) (m.1 (LK i j + 2)) (m.1 (LK i j + 3)) q ++ (if q = 0 then [] else [32])) ++ txtI ((m.1 (LK i j + 1)) q) ++ [nI 47]).length ≤ 9 * q + 5 := by rw [List.length_append]; show _ + 1 ≤ _; omega
    refine V.pop (pc := 38) hB dX5_writeTo_38 rfl ?_
    refine V.aload_n (pc := 39) hB dX5_writeTo_39 rfl ?_
    refine V.aload_n (pc := 40) hB dX5_writeTo_40 rfl ?_
    refine V.get (pc := 41) hB fk_Lake 1 wf_X5_15 dX5_writeTo_41 (by decide) (hp_at (ca_Lake (by omega) (by omega) _)) rfl ?_
    refine V.iload_n (pc := 44) hB dX5_writeTo_44 rfl ?_
    refine V.ialdM (pc := 45) hB (ca_LTemp (by omega) (by omega)) dX5_writeTo_45 (ix_nI (by omega) (by decide)) ?_
    rw [hF2 (LK i j + 2) (by omega) (by omega)]
    refine V.cv (pc := 46) hB cw_J4_append_bf812 wm_X5_84 wi_J4_append_bf812 ws_J4_append_bf812 dX5_writeTo_46 (c_J4_append_bf812 hG hE hL2.1 (by omega) hta htv) (hp_at (ca_SB _)) fk_SB rfl (by omega) (by decide) rfl (by exact Nat.le_of_ble_eq_true rfl) (by omega) (by omega) kN (kR (fun v_46 m_46 sz h_46 => ?_)) rfl
    obtain ⟨rfl, hu2, hu3, hu4⟩ := h_46
    have hL3 := hL2.app hu2 hu3 hu4
    have hF3 : LF m m_46 := fun k a b => (hu3.1 k a b).trans (hF2 k a b)
    have hl3 : ((lnT (m.1 (LK i j + 1)) (m.1 (LK i j + 2)) (m.1 (LK i j + 3)) q ++ (if q = 0 then [] else [32])) ++ txtI ((m.1 (LK i j + 1)) q) ++ [nI 47] ++ txtI ((m.1 (LK i j + 2)) q)).length ≤ 9 * q + 8 := by rw [List.length_append]; omega
    refine V.pop (pc := 49) hB dX5_writeTo_49 rfl ?_
    refine V.aload_n (pc := 50) hB dX5_writeTo_50 rfl ?_
    refine V.get (pc := 51) hB fk_Lake 2 wf_X5_18 dX5_writeTo_51 (by decide) (hp_at (ca_Lake (by omega) (by omega) _)) rfl ?_
    refine V.iload_n (pc := 54) hB dX5_writeTo_54 rfl ?_
    refine V.ialdM (pc := 55) hB (ca_LStrain (by omega) (by omega)) dX5_writeTo_55 (ix_nI (by omega) (by decide)) ?_
    rw [hF3 (LK i j + 3) (by omega) (by omega)]
    refine V.bipush (pc := 56) (v := 10) hB dX5_writeTo_56 rfl ?_
    refine V.icmp_lt (pc := 58) (tgt := 68) hB dX5_writeTo_58 (by decide) (fun c_58 => ?_) (fun c_58 => ?_)
    · have hno : ¬ 10 ≤ (m.1 (LK i j + 3)) q := Int32.not_le.mpr c_58
      have hL4 : LT g m_46 (lnT (m.1 (LK i j + 1)) (m.1 (LK i j + 2)) (m.1 (LK i j + 3)) (q + 1)) := by
        show LT g m_46 (_ ++ lyT _ _ _ q)
        unfold lyT
        rw [if_neg hno, List.append_nil]
        simpa only [List.append_assoc, show nI 47 = 47 from rfl, show nI 33 = 33 from rfl] using hL3
      have hF4 := hF3
      refine V.iinc (pc := 68) (v := nI (q + 1)) hB dX5_writeTo_68 rfl (nI_1 _) (by decide) rfl ?_
      refine V.goto (pc := 71) (tgt := 2) hB dX5_writeTo_71 (by decide) ?_
      exact V.wid (by omega) (by omega) (nxt _ _ hL4 hF4)
    · have hyes : 10 ≤ (m.1 (LK i j + 3)) q := Int32.not_lt.mp c_58
      refine V.aload_n (pc := 61) hB dX5_writeTo_61 rfl ?_
      refine V.bipush (pc := 62) (v := 33) hB dX5_writeTo_62 rfl ?_
      refine V.cv (pc := 64) hB cw_J4_append_cf468 wm_X5_78 wi_J4_append_cf468 ws_J4_append_cf468 dX5_writeTo_64 (c_J4_append_cf468 hG hE hL3.1 (by omega) (c := 33) (by decide)) (hp_at (ca_SB _)) fk_SB rfl (by omega) (by decide) rfl (by exact Nat.le_of_ble_eq_true rfl) (by omega) (by omega) kN (kR (fun v_64 m_64 sz h_64 => ?_)) rfl
      obtain ⟨rfl, hw2, hw3, hw4⟩ := h_64
      have hL3b := hL3.one hw2 hw3 hw4
      have hF4 : LF m m_64 := fun k a b => (hw3.1 k a b).trans (hF3 k a b)
      have hL4 : LT g m_64 (lnT (m.1 (LK i j + 1)) (m.1 (LK i j + 2)) (m.1 (LK i j + 3)) (q + 1)) := by
        show LT g m_64 (_ ++ lyT _ _ _ q)
        unfold lyT
        rw [if_pos hyes]
        simpa only [List.append_assoc, show nI 47 = 47 from rfl, show nI 33 = 33 from rfl] using hL3b
      refine V.pop (pc := 67) hB dX5_writeTo_67 rfl ?_
      refine V.iinc (pc := 68) (v := nI (q + 1)) hB dX5_writeTo_68 rfl (nI_1 _) (by decide) rfl ?_
      refine V.goto (pc := 71) (tgt := 2) hB dX5_writeTo_71 (by decide) ?_
      exact V.wid (by omega) (by omega) (nxt _ _ hL4 hF4)
  have loop : ∀ q : Nat, q ≤ N → ∀ (sz : Nat) (M : Mem), LT g M (lnT (m.1 (LK i j + 1)) (m.1 (LK i j + 2)) (m.1 (LK i j + 3)) q) → LF m M → V g B (5 * q) (1000 * q) (QM g B 40 8000 (rV (fun m2 => LT g m2 (lnT (m.1 (LK i j + 1)) (m.1 (LK i j + 2)) (m.1 (LK i j + 3)) N) ∧ LF m m2)) noX) (hp g (M)) sz 2 [some (.ref (ad g (LK i j))), some (.ref (ad g 360)), some (.int (nI q))] [] := by
    refine loop_up (fun q hq ih => ?_)
    intro sz M hLT hLF
    have hlq := hlen q hq
    have hcell : ∀ k, k ≠ 360 → k ≠ 361 → M.1 k = m.1 k := hLF
    refine V.iload_n (pc := 2) hB dX5_writeTo_2 rfl ?_
    refine V.aload_n (pc := 3) hB dX5_writeTo_3 rfl ?_
    refine V.get (pc := 4) hB fk_Lake 3 wf_X5_21 dX5_writeTo_4 (by decide) (hp_at (ca_Lake (by omega) (by omega) _)) rfl ?_
    rw [hcell (LK i j) (by omega) (by omega), hN.1]
    refine V.icmp_ge (pc := 7) (tgt := 74) hB dX5_writeTo_7 (by decide) (fun c_7 => ?_) (fun c_7 => ?_)
    · have hqN : q = N := by have := (nI_leI (by omega) (by omega)).mp c_7; omega
      subst hqN
      refine V.retV (pc := 74) hB dX5_writeTo_74 rfl (by omega) (by omega) ?_
      exact ⟨hLT, hLF⟩
    · have hlt : q < N := Nat.not_le.mp (fun z => c_7 ((nI_leI (by omega) (by omega)).mpr z))
      obtain ⟨ka, hka, hkv⟩ := hVB.k hlt
      obtain ⟨ta, hta, htv⟩ := hVB.t hlt
      have hk3 := txt_len hka hkv
      have ht3 := txt_len hta htv
      refine V.iload_n (pc := 10) hB dX5_writeTo_10 rfl ?_
      refine V.if_le (pc := 11) (tgt := 21) hB dX5_writeTo_11 (by decide) (fun c_11 => ?_) (fun c_11 => ?_)
      · have hq0 : q = 0 := by have := (nI_leI (b := 0) (by omega) (by decide)).mp c_11; omega
        have hL0 : LT g M (lnT (m.1 (LK i j + 1)) (m.1 (LK i j + 2)) (m.1 (LK i j + 3)) q ++ (if q = 0 then [] else [32])) := by rw [if_pos hq0, List.append_nil]; exact hLT
        have hl0 : (lnT (m.1 (LK i j + 1)) (m.1 (LK i j + 2)) (m.1 (LK i j + 3)) q ++ (if q = 0 then [] else [32] : List Int32)).length ≤ 9 * q + 1 := by rw [if_pos hq0, List.append_nil]; omega
        exact V.wid (by omega) (by omega) (tail q hlt sz M hL0 hLF hl0 (ih hlt))
      · have hq0 : ¬ q = 0 := fun z => c_11 (by rw [z]; decide)
        refine V.aload_n (pc := 14) hB dX5_writeTo_14 rfl ?_
        refine V.bipush (pc := 15) (v := 32) hB dX5_writeTo_15 rfl ?_
        refine V.cv (pc := 17) hB cw_J4_append_cf468 wm_X5_78 wi_J4_append_cf468 ws_J4_append_cf468 dX5_writeTo_17 (c_J4_append_cf468 hG hE hLT.1 (by omega) (c := 32) (by decide)) (hp_at (ca_SB _)) fk_SB rfl (by omega) (by decide) rfl (by exact Nat.le_of_ble_eq_true rfl) (by omega) (by omega) kN (kR (fun v_17 m_17 sz h_17 => ?_)) rfl
        obtain ⟨rfl, hq2, hq3, hq4⟩ := h_17
        have hL0 : LT g m_17 (lnT (m.1 (LK i j + 1)) (m.1 (LK i j + 2)) (m.1 (LK i j + 3)) q ++ (if q = 0 then [] else [32])) := by rw [if_neg hq0]; exact hLT.one hq2 hq3 hq4
        have hl0 : (lnT (m.1 (LK i j + 1)) (m.1 (LK i j + 2)) (m.1 (LK i j + 3)) q ++ (if q = 0 then [] else [32] : List Int32)).length ≤ 9 * q + 1 := by rw [if_neg hq0, List.length_append]; show _ + 1 ≤ _; omega
        refine V.pop (pc := 20) hB dX5_writeTo_20 rfl ?_
        exact tail q hlt sz _ hL0 (fun k a b => (hq3.1 k a b).trans (hLF k a b)) hl0 (ih hlt)
  refine V.iconst (pc := 0) (v := 0) hB dX5_writeTo_0 rfl ?_
  refine V.istore_n (pc := 1) hB dX5_writeTo_1 (by decide) rfl ?_
  exact loop 0 (by omega) sz m ⟨hs, fun j hj => absurd hj (Nat.not_lt_zero j)⟩ (fun _ _ _ => rfl)

set_option maxRecDepth 100000 in
set_option maxHeartbeats 1000000 in
theorem c_X9_describeLake {g : xG} (hG : GK g) {z : xE} (hE : GE g z) {m : Mem} (hI : CI m) {n : Nat} (hs : SW g m n) (hVB : ∀ j, j < nLk m 0 → VB (m.1 (LK 0 j + 1)) (m.1 (LK 0 j + 2)) (nLy m 0 j)) {x : Int32} : CC g yX9_describeLake (.code yX9_describeLake cX9_describeLake 3 (some .int)) 8 42 8300 [.ref (ad g 0), .int x] m (rI (fun v m2 => inL m x ∧ v = nI (lnT (m.1 (LK 0 x.toNatClampNeg + 1)) (m.1 (LK 0 x.toNatClampNeg + 2)) (m.1 (LK 0 x.toNatClampNeg + 3)) (nLy m 0 x.toNatClampNeg)).length ∧ LT g m2 (lnT (m.1 (LK 0 x.toNatClampNeg + 1)) (m.1 (LK 0 x.toNatClampNeg + 2)) (m.1 (LK 0 x.toNatClampNeg + 3)) (nLy m 0 x.toNatClampNeg)) ∧ LF m m2)) (fun E m2 => E = "java/lang/IndexOutOfBoundsException" ∧ ¬ inL m x ∧ m2 = m) := by
  refine CC.mkX hG RX9 rfl (by decide +kernel) rfl (Nat.le_of_ble_eq_true rfl) (fun sz B hB hX hS => ?_)
  show V g B 0 0 _ (hp g m) sz 0 [some (.ref (ad g 0)), some (.int x), none] []
  refine V.aload_n (pc := 0) hB dX9_describeLake_0 rfl ?_
  refine V.iload_n (pc := 1) hB dX9_describeLake_1 rfl ?_
  refine V.cv (pc := 2) hB cw_X9_lakeNumbered wm_X9_89 wi_X9_lakeNumbered ws_X9_lakeNumbered dX9_describeLake_2 (c_X9_lakeNumbered hG hI) (hp_at (ca_Bells _)) fk_Bells rfl (by omega) (by decide) rfl (by exact Nat.le_of_ble_eq_true rfl) (by omega) (by omega) (fun E m2 sz hx => VX.outM hB hX (by omega) (by omega) hx) (kR (fun v_2 m_2 sz h_2 => ?_)) rfl
  obtain ⟨hc, rfl, hm_2⟩ := h_2
  obtain rfl := hm_2.symm
  obtain ⟨j, hxe, hj, hjc⟩ := idx_j hc (by have := hI.1.nl5; omega)
  rw [hjc]
  have h5 := hI.1.nl5
  have hln := hI.1.ln hj
  have hlk : LK 0 j + 3 < 360 := by unfold LK LA; split <;> omega
  refine V.astore_n (pc := 5) hB dX9_describeLake_5 (by decide) rfl ?_
  refine V.aload_n (pc := 6) hB dX9_describeLake_6 rfl ?_
  refine V.get (pc := 7) hB fk_Bells 9 wf_X9_54 dX9_describeLake_7 (by decide) (hp_at (ca_Bells _)) rfl ?_
  refine V.iconst (pc := 10) (v := 0) hB dX9_describeLake_10 rfl ?_
  refine V.cv (pc := 11) hB cw_J4_setLength_d00df wm_X9_304 wi_J4_setLength_d00df ws_J4_setLength_d00df dX9_describeLake_11 (c_J4_setLength_d00df hG hs) (hp_at (ca_SB _)) fk_SB rfl (by omega) (by decide) rfl (by exact Nat.le_of_ble_eq_true rfl) (by omega) (by omega) kN (kV (fun m_11 sz h_11 => ?_)) rfl
  obtain ⟨hs2, hF2⟩ := h_11
  have e1 : m_11.1 (LK 0 j + 1) = m.1 (LK 0 j + 1) := hF2.1 _ (by omega) (by omega)
  have e2 : m_11.1 (LK 0 j + 2) = m.1 (LK 0 j + 2) := hF2.1 _ (by omega) (by omega)
  have e3 : m_11.1 (LK 0 j + 3) = m.1 (LK 0 j + 3) := hF2.1 _ (by omega) (by omega)
  have e0 : m_11.1 (LK 0 j) = m.1 (LK 0 j) := hF2.1 _ (by omega) (by omega)
  have hln2 : LN m_11 0 j (nLy m 0 j) := ⟨by rw [e0]; exact hln.1, hln.2⟩
  have hV2 : VB (m_11.1 (LK 0 j + 1)) (m_11.1 (LK 0 j + 2)) (nLy m 0 j) := by rw [e1, e2]; exact hVB j hj
  refine V.aload_n (pc := 14) hB dX9_describeLake_14 rfl ?_
  refine V.aload_n (pc := 15) hB dX9_describeLake_15 rfl ?_
  refine V.get (pc := 16) hB fk_Bells 9 wf_X9_54 dX9_describeLake_16 (by decide) (hp_at (ca_Bells _)) rfl ?_
  refine V.cv (pc := 19) hB cw_X5_writeTo wm_X9_308 wi_X5_writeTo ws_X5_writeTo dX9_describeLake_19 (c_X5_writeTo hG hE (i := 0) (j := j) (by omega) (by omega) hs2 hln2 hV2) (hp_at (ca_Lake (by omega) (by omega) _)) fk_Lake rfl (by omega) (by decide) rfl (by exact Nat.le_of_ble_eq_true rfl) (by omega) (by omega) kN (kV (fun m_19 sz h_19 => ?_)) rfl
  rw [e1, e2, e3] at h_19
  obtain ⟨hLT, hLF⟩ := h_19
  refine V.aload_n (pc := 22) hB dX9_describeLake_22 rfl ?_
  refine V.get (pc := 23) hB fk_Bells 9 wf_X9_54 dX9_describeLake_23 (by decide) (hp_at (ca_Bells _)) rfl ?_
  refine V.cv (pc := 26) hB cw_J4_length_8abf5 wm_X9_312 wi_J4_length_8abf5 ws_J4_length_8abf5 dX9_describeLake_26 (c_J4_length_8abf5 hG hLT.1) (hp_at (ca_SB _)) fk_SB rfl (by omega) (by decide) rfl (by exact Nat.le_of_ble_eq_true rfl) (by omega) (by omega) kN (kI (fun v_26 m_26 sz h_26 => ?_)) rfl
  obtain ⟨rfl, hm_26⟩ := h_26
  obtain rfl := hm_26.symm
  refine V.retI (pc := 29) hB dX9_describeLake_29 rfl (rfl) (by omega) (by omega) ?_
  exact ⟨hc, rfl, hLT, fun k a b => (hLF k a b).trans (hF2.1 k a b)⟩

set_option maxRecDepth 100000 in
set_option maxHeartbeats 1000000 in
theorem c_X9_lineAt {g : xG} (hG : GK g) {z : xE} (hE : GE g z) {m : Mem} {l : List Int32} (hL : LT g m l) (hl8 : ∀ j, j < l.length → ∃ c, c < 128 ∧ l.getD j 0 = nI c) {x : Int32} : CC g yX9_lineAt (.code yX9_lineAt cX9_lineAt 2 (some .char)) 6 1 6 [.ref (ad g 0), .int x] m (rI (fun v m2 => (0 ≤ x ∧ x < nI l.length) ∧ v = l.getD x.toNatClampNeg 0 ∧ m2 = m)) (fun E m2 => E = "java/lang/IndexOutOfBoundsException" ∧ ¬ (0 ≤ x ∧ x < nI l.length) ∧ m2 = m) := by
  refine CC.mkX hG RX9 rfl (by decide +kernel) rfl (Nat.le_of_ble_eq_true rfl) (fun sz B hB hX hS => ?_)
  show V g B 0 0 _ (hp g m) sz 0 [some (.ref (ad g 0)), some (.int x)] []
  refine V.iload_n (pc := 0) hB dX9_lineAt_0 rfl ?_
  refine V.if_lt (pc := 1) (tgt := 15) hB dX9_lineAt_1 (by decide) (fun c_1 => ?_) (fun c_1 => ?_)
  · have hno : ¬ (0 ≤ x ∧ x < nI l.length) := fun z => absurd c_1 (Int32.not_lt.mpr z.1)
    refine V.throwSW (pc := 15) hB hX hS tw_315_317 dX9_lineAt_15 dX9_lineAt_18 dX9_lineAt_19 dX9_lineAt_22 dX9_lineAt_25 (by omega) (by exact Nat.le_of_ble_eq_true rfl) (by omega) (by omega) (fun _ => ⟨_, rfl, ?_⟩)
    exact ⟨rfl, hno, rfl⟩
  · have h0 := Int32.not_lt.mp c_1
    refine V.iload_n (pc := 4) hB dX9_lineAt_4 rfl ?_
    refine V.aload_n (pc := 5) hB dX9_lineAt_5 rfl ?_
    refine V.get (pc := 6) hB fk_Bells 9 wf_X9_54 dX9_lineAt_6 (by decide) (hp_at (ca_Bells _)) rfl ?_
    refine V.cv (pc := 9) hB cw_J4_length_8abf5 wm_X9_312 wi_J4_length_8abf5 ws_J4_length_8abf5 dX9_lineAt_9 (c_J4_length_8abf5 hG hL.1) (hp_at (ca_SB _)) fk_SB rfl (by omega) (by decide) rfl (by exact Nat.le_of_ble_eq_true rfl) (by omega) (by omega) kN (kI (fun v_9 m_9 sz h_9 => ?_)) rfl
    obtain ⟨rfl, hm_9⟩ := h_9
    obtain rfl := hm_9.symm
    refine V.icmp_lt (pc := 12) (tgt := 26) hB dX9_lineAt_12 (by decide) (fun c_12 => ?_) (fun c_12 => ?_)
    · have hn2 := hL.1.2.2.1
      have hn1 := hL.1.2.1
      obtain ⟨q, hxe, hq, hqc⟩ := idx_j ⟨h0, c_12⟩ (by omega)
      obtain ⟨c, hc8, hc⟩ := hl8 q hq
      rw [hqc]
      refine V.aload_n (pc := 26) hB dX9_lineAt_26 rfl ?_
      refine V.get (pc := 27) hB fk_Bells 9 wf_X9_54 dX9_lineAt_27 (by decide) (hp_at (ca_Bells _)) rfl ?_
      refine V.iload_n (pc := 30) hB dX9_lineAt_30 rfl ?_
      rw [hxe]
      refine V.cv (pc := 31) hB cw_J4_charAt_5068e wm_X9_320 wi_J4_charAt_5068e ws_J4_charAt_5068e dX9_lineAt_31 (c_J4_charAt_5068e hG hE hL.1 hq (by rw [hL.2 q hq]; exact hc) hc8) (hp_at (ca_SB _)) fk_SB rfl (by omega) (by decide) rfl (by exact Nat.le_of_ble_eq_true rfl) (by omega) (by omega) kN (kI (fun v_31 m_31 sz h_31 => ?_)) rfl
      obtain ⟨rfl, hm_31⟩ := h_31
      obtain rfl := hm_31.symm
      refine V.retI (pc := 34) hB dX9_lineAt_34 rfl (chn_b c hc8) (by omega) (by omega) ?_
      exact ⟨by rw [← hxe]; exact ⟨h0, c_12⟩, hc.symm, rfl⟩
    · have hno : ¬ (0 ≤ x ∧ x < nI l.length) := fun z => c_12 z.2
      refine V.throwSW (pc := 15) hB hX hS tw_315_317 dX9_lineAt_15 dX9_lineAt_18 dX9_lineAt_19 dX9_lineAt_22 dX9_lineAt_25 (by omega) (by exact Nat.le_of_ble_eq_true rfl) (by omega) (by omega) (fun _ => ⟨_, rfl, ?_⟩)
      exact ⟨rfl, hno, rfl⟩
