/-! the reference: a letter typed, a letter read -/
def rdB (T : Nat → Int32) (N p : Nat) (lo hi : Int32) : Bool := decide (p < N) && (decide (lo ≤ T p) && decide (T p ≤ hi))
/-- where the reference reads -/
def RS (m : Mem) (N p : Nat) : Prop := m.1 363 16 = nI N ∧ N ≤ 60 ∧ m.1 363 17 = nI p ∧ p ≤ 60

set_option maxRecDepth 100000 in
set_option maxHeartbeats 1000000 in
theorem c_X10_append {g : xG} (hG : GK g) {m : Mem} {n : Nat} (h12 : m.1 363 12 = nI n) (hn60 : n ≤ 60) {c : Int32} : CC g yX10_append (.code yX10_append cX10_append 2 (some .int)) 3 0 0 [.ref (ad g 363), .int c] m (rI (fun v m2 => ((32 ≤ c ∧ c ≤ 126) ∧ n < 60 ∧ v = nI (n + 1) ∧ m2 = up (up (up m 363 15 0) 370 n c) 363 12 (nI (n + 1))) ∨ (v = 0 ∧ ∃ t, ((¬ (32 ≤ c ∧ c ≤ 126) ∧ t = 1) ∨ ((32 ≤ c ∧ c ≤ 126) ∧ n = 60 ∧ t = 2)) ∧ m2 = up m 363 15 t))) noX := by
  obtain ⟨a, ha⟩ : ∃ a, a = (decide (32 ≤ c) && decide (c ≤ 126)) := ⟨_, rfl⟩
  have hai : a = true ↔ (32 ≤ c ∧ c ≤ 126) := by rw [ha, Bool.and_eq_true, decide_eq_true_eq, decide_eq_true_eq]
  obtain ⟨b, hb⟩ : ∃ b, b = decide (n < 60) := ⟨_, rfl⟩
  refine CC.mk hG RX10 rfl (by decide +kernel) rfl (Nat.le_of_ble_eq_true rfl) (fun sz B hB hX => ?_)
  show V g B 0 0 _ (hp g m) sz 0 [some (.ref (ad g 363)), some (.int c)] []
  have join : ∀ (sz : Nat) (t : Int32), t = (if b = true then 1 else 0) → V g B 0 0 (QM g B 0 0 (rI (fun v m2 => ((32 ≤ c ∧ c ≤ 126) ∧ n < 60 ∧ v = nI (n + 1) ∧ m2 = up (up (up m 363 15 0) 370 n c) 363 12 (nI (n + 1))) ∨ (v = 0 ∧ ∃ t, ((¬ (32 ≤ c ∧ c ≤ 126) ∧ t = 1) ∨ ((32 ≤ c ∧ c ≤ 126) ∧ n = 60 ∧ t = 2)) ∧ m2 = up m 363 15 t))) noX) (hp g (m)) sz 23 [some (.ref (ad g 363)), some (.int c)] [.int t, .int (if a = true then 1 else 0), .ref (ad g 363)] := by
    intro sz t ht
    refine V.iconst (pc := 23) (v := 1) hB dX10_append_23 rfl ?_
    refine V.iconst (pc := 24) (v := 1) hB dX10_append_24 rfl ?_
    refine V.cv (pc := 25) hB cw_X10_holds wm_X10_47 wi_X10_holds ws_X10_holds dX10_append_25 (c_X10_holds hG) (hp_at (ca_Model _)) fk_Model rfl (by omega) (by decide) rfl (by exact Nat.le_of_ble_eq_true rfl) (by omega) (by omega) kN (kI (fun v_25 m_25 sz h_25 => ?_)) rfl
    obtain ⟨rfl, hm_25⟩ := h_25
    subst hm_25
    rw [ht, thrV_b2]
    refine V.if_ne (pc := 28) (tgt := 33) hB dX10_append_28 (by decide) (fun c_28 => ?_) (fun c_28 => ?_)
    · have hab : a = true ∧ b = true := by
        cases a <;> cases b
        · exact absurd rfl c_28
        · exact absurd rfl c_28
        · exact absurd rfl c_28
        · exact ⟨rfl, rfl⟩
      have hn : n < 60 := of_decide_eq_true (hb.symm.trans hab.2)
      rw [hab.1, hab.2, show (if true = false then (1 : Int32) else if true = false then 2 else 0) = 0 from rfl]
      have h12b : (up m 363 15 0).1 363 12 = nI n := (up_slot _ _ _ (by decide)).trans h12
      refine V.aload_n (pc := 33) hB dX10_append_33 rfl ?_
      refine V.get (pc := 34) hB fk_Model 11 wf_X10_35 dX10_append_34 (by decide) (hp_at (ca_Model _)) rfl ?_
      refine V.aload_n (pc := 37) hB dX10_append_37 rfl ?_
      refine V.get (pc := 38) hB fk_Model 12 wf_X10_188 dX10_append_38 (by decide) (hp_at (ca_Model _)) rfl ?_
      rw [h12b]
      refine V.iload_n (pc := 41) hB dX10_append_41 rfl ?_
      refine V.iastM (pc := 42) hB (ca_Text) dX10_append_42 (ix_nI (by omega) (by decide)) (by decide) ?_
      refine V.aload_n (pc := 43) hB dX10_append_43 rfl ?_
      refine V.dup (pc := 44) hB dX10_append_44 rfl ?_
      refine V.get (pc := 45) hB fk_Model 12 wf_X10_188 dX10_append_45 (by decide) (hp_at (ca_Model _)) rfl ?_
      rw [show (up (up m 363 15 0) 370 n c).1 363 12 = nI n from (congrFun (up_cell _ _ _ (by decide)) 12).trans h12b]
      refine V.iconst (pc := 48) (v := 1) hB dX10_append_48 rfl ?_
      refine V.iadd (pc := 49) hB dX10_append_49 ?_
      rw [nI_1]
      refine V.p_Model_f12 (pc := 50) hB wf_X10_188 dX10_append_50 ?_
      refine V.aload_n (pc := 53) hB dX10_append_53 rfl ?_
      refine V.get (pc := 54) hB fk_Model 12 wf_X10_188 dX10_append_54 (by decide) (hp_at (ca_Model _)) rfl ?_
      rw [up_same]
      refine V.retI (pc := 57) hB dX10_append_57 rfl (rfl) (by omega) (by omega) ?_
      exact Or.inl ⟨hai.mp hab.1, hn, rfl, rfl⟩
    · have hab : a = false ∨ (a = true ∧ b = false) := by
        cases a <;> cases b
        · exact Or.inl rfl
        · exact Or.inl rfl
        · exact Or.inr ⟨rfl, rfl⟩
        · exact absurd c_28 (by decide)
      refine V.iconst (pc := 31) (v := 0) hB dX10_append_31 rfl ?_
      refine V.retI (pc := 32) hB dX10_append_32 rfl (rfl) (by omega) (by omega) ?_
      refine Or.inr ⟨rfl, _, ?_, rfl⟩
      rcases hab with e | ⟨e, e2⟩
      · exact Or.inl ⟨fun w => by rw [hai.mpr w] at e; exact absurd e (by decide), by rw [e]; rfl⟩
      · exact Or.inr ⟨hai.mp e, by have := of_decide_eq_false (hb.symm.trans e2); omega, by rw [e, e2]; rfl⟩
  refine V.aload_n (pc := 0) hB dX10_append_0 rfl ?_
  refine V.iload_n (pc := 1) hB dX10_append_1 rfl ?_
  refine V.bipush (pc := 2) (v := 32) hB dX10_append_2 rfl ?_
  refine V.bipush (pc := 4) (v := 126) hB dX10_append_4 rfl ?_
  refine V.cs (pc := 6) hB cw_X10_isIn wm_X10_69 wst_X10_isIn dX10_append_6 (c_X10_isIn hG) (by omega) (by decide) rfl (by exact Nat.le_of_ble_eq_true rfl) (by omega) (by omega) kN (kI (fun v_6 m_6 sz h_6 => ?_)) rfl
  obtain ⟨rfl, hm_6⟩ := h_6
  obtain rfl := hm_6.symm
  rw [← ha]
  refine V.aload_n (pc := 9) hB dX10_append_9 rfl ?_
  refine V.get (pc := 10) hB fk_Model 12 wf_X10_188 dX10_append_10 (by decide) (hp_at (ca_Model _)) rfl ?_
  rw [h12]
  refine V.bipush (pc := 13) (v := 60) hB dX10_append_13 rfl ?_
  refine V.icmp_ge (pc := 15) (tgt := 22) hB dX10_append_15 (by decide) (fun c_15 => ?_) (fun c_15 => ?_)
  · have hb0 : (0 : Int32) = if b = true then 1 else 0 := by rw [hb, decide_eq_false (by have := (nI_leI (a := 60) (by decide) (by omega)).mp c_15; omega)]; rfl
    refine V.iconst (pc := 22) (v := 0) hB dX10_append_22 rfl ?_
    exact join sz _ hb0
  · have hb0 : (1 : Int32) = if b = true then 1 else 0 := by rw [hb, decide_eq_true (Nat.not_le.mp (fun z => c_15 ((nI_leI (a := 60) (by decide) (by omega)).mpr z)))]; rfl
    refine V.iconst (pc := 18) (v := 1) hB dX10_append_18 rfl ?_
    refine V.goto (pc := 19) (tgt := 23) hB dX10_append_19 (by decide) ?_
    exact join sz _ hb0

set_option maxRecDepth 100000 in
set_option maxHeartbeats 1000000 in
theorem c_X10_letterHere {g : xG} (hG : GK g) {m : Mem} {N p : Nat} (hS : RS m N p) : CC g yX10_letterHere (.code yX10_letterHere cX10_letterHere 1 (some .int)) 1 0 0 [.ref (ad g 363)] m (rI (fun v m2 => v = (if p < N then m.1 370 p else -1) ∧ m2 = m)) noX := by
  refine CC.mk hG RX10 rfl (by decide +kernel) rfl (Nat.le_of_ble_eq_true rfl) (fun sz B hB hX => ?_)
  show V g B 0 0 _ (hp g m) sz 0 [some (.ref (ad g 363))] []
  refine V.aload_n (pc := 0) hB dX10_letterHere_0 rfl ?_
  refine V.get (pc := 1) hB fk_Model 17 wf_X10_191 dX10_letterHere_1 (by decide) (hp_at (ca_Model _)) rfl ?_
  rw [hS.2.2.1]
  refine V.aload_n (pc := 4) hB dX10_letterHere_4 rfl ?_
  refine V.get (pc := 5) hB fk_Model 16 wf_X10_194 dX10_letterHere_5 (by decide) (hp_at (ca_Model _)) rfl ?_
  rw [hS.1]
  refine V.icmp_ge (pc := 8) (tgt := 23) hB dX10_letterHere_8 (by decide) (fun c_8 => ?_) (fun c_8 => ?_)
  · have hge : ¬ p < N := by have := (nI_leI (by have := hS.2.1; omega) (by have := hS.2.2.2; omega)).mp c_8; omega
    refine V.iconst (pc := 23) (v := (-1)) hB dX10_letterHere_23 rfl ?_
    refine V.retI (pc := 24) hB dX10_letterHere_24 rfl (rfl) (by omega) (by omega) ?_
    first | exact ⟨(if_pos hlt).symm, rfl⟩ | exact ⟨(if_neg hge).symm, rfl⟩
  · have hlt : p < N := Nat.not_le.mp (fun z => c_8 ((nI_leI (by have := hS.2.1; omega) (by have := hS.2.2.2; omega)).mpr z))
    refine V.aload_n (pc := 11) hB dX10_letterHere_11 rfl ?_
    refine V.get (pc := 12) hB fk_Model 11 wf_X10_35 dX10_letterHere_12 (by decide) (hp_at (ca_Model _)) rfl ?_
    refine V.aload_n (pc := 15) hB dX10_letterHere_15 rfl ?_
    refine V.get (pc := 16) hB fk_Model 17 wf_X10_191 dX10_letterHere_16 (by decide) (hp_at (ca_Model _)) rfl ?_
    rw [hS.2.2.1]
    refine V.ialdM (pc := 19) hB (ca_Text) dX10_letterHere_19 (ix_nI (by have := hS.2.1; omega) (by decide)) ?_
    refine V.goto (pc := 20) (tgt := 24) hB dX10_letterHere_20 (by decide) ?_
    refine V.retI (pc := 24) hB dX10_letterHere_24 rfl (rfl) (by omega) (by omega) ?_
    first | exact ⟨(if_pos hlt).symm, rfl⟩ | exact ⟨(if_neg hge).symm, rfl⟩

set_option maxRecDepth 100000 in
set_option maxHeartbeats 1000000 in
theorem c_X10_reads {g : xG} (hG : GK g) {m : Mem} {N p : Nat} (hS : RS m N p) {lo hi : Int32} (hlo : 0 ≤ lo) : CC g yX10_reads (.code yX10_reads cX10_reads 3 (some .int)) 3 0 0 [.ref (ad g 363), .int lo, .int hi] m (rI (fun v m2 => (m.1 363 18 = -1 ∧ rdB (m.1 370) N p lo hi = true ∧ v = m.1 370 p - lo ∧ m2 = up m 363 17 (nI (p + 1))) ∨ (¬ (m.1 363 18 = -1 ∧ rdB (m.1 370) N p lo hi = true) ∧ v = 0 ∧ m2 = up m 363 18 (if m.1 363 18 = -1 then nI p else m.1 363 18)))) noX := by
  have hrd : (decide (lo ≤ if p < N then m.1 370 p else -1) && decide ((if p < N then m.1 370 p else -1) ≤ hi)) = rdB (m.1 370) N p lo hi := by
    unfold rdB
    by_cases h : p < N
    · rw [if_pos h, decide_eq_true h, Bool.true_and]
    · rw [if_neg h, decide_eq_false h, Bool.false_and, decide_eq_false (Int32.not_le.mpr (Int32.lt_of_lt_of_le (show (-1 : Int32) < 0 by decide) hlo)), Bool.false_and]
  refine CC.mk hG RX10 rfl (by decide +kernel) rfl (Nat.le_of_ble_eq_true rfl) (fun sz B hB hX => ?_)
  show V g B 0 0 _ (hp g m) sz 0 [some (.ref (ad g 363)), some (.int lo), some (.int hi)] []
  have no : ¬ (m.1 363 18 = -1 ∧ rdB (m.1 370) N p lo hi = true) → ∀ (sz : Nat), V g B 0 0 (QM g B 0 0 (rI (fun v m2 => (m.1 363 18 = -1 ∧ rdB (m.1 370) N p lo hi = true ∧ v = m.1 370 p - lo ∧ m2 = up m 363 17 (nI (p + 1))) ∨ (¬ (m.1 363 18 = -1 ∧ rdB (m.1 370) N p lo hi = true) ∧ v = 0 ∧ m2 = up m 363 18 (if m.1 363 18 = -1 then nI p else m.1 363 18)))) noX) (hp g (m)) sz 44 [some (.ref (ad g 363)), some (.int lo), some (.int hi)] [] := by
    intro hno sz
    refine V.aload_n (pc := 44) hB dX10_reads_44 rfl ?_
    refine V.aload_n (pc := 45) hB dX10_reads_45 rfl ?_
    refine V.get (pc := 46) hB fk_Model 18 wf_X10_197 dX10_reads_46 (by decide) (hp_at (ca_Model _)) rfl ?_
    refine V.iconst (pc := 49) (v := (-1)) hB dX10_reads_49 rfl ?_
    refine V.icmp_ne (pc := 50) (tgt := 60) hB dX10_reads_50 (by decide) (fun c_50 => ?_) (fun c_50 => ?_)
    · have hx : (if m.1 363 18 = -1 then nI p else m.1 363 18) = m.1 363 18 := if_neg c_50
      refine V.aload_n (pc := 60) hB dX10_reads_60 rfl ?_
      refine V.get (pc := 61) hB fk_Model 18 wf_X10_197 dX10_reads_61 (by decide) (hp_at (ca_Model _)) rfl ?_
      refine V.p_Model_f18 (pc := 64) hB wf_X10_197 dX10_reads_64 ?_
      refine V.iconst (pc := 67) (v := 0) hB dX10_reads_67 rfl ?_
      refine V.retI (pc := 68) hB dX10_reads_68 rfl (rfl) (by omega) (by omega) ?_
      exact Or.inr ⟨hno, rfl, by rw [hx]⟩
    · have hx : (if m.1 363 18 = -1 then nI p else m.1 363 18) = nI p := if_pos c_50
      refine V.aload_n (pc := 53) hB dX10_reads_53 rfl ?_
      refine V.get (pc := 54) hB fk_Model 17 wf_X10_191 dX10_reads_54 (by decide) (hp_at (ca_Model _)) rfl ?_
      rw [hS.2.2.1]
      refine V.goto (pc := 57) (tgt := 64) hB dX10_reads_57 (by decide) ?_
      refine V.p_Model_f18 (pc := 64) hB wf_X10_197 dX10_reads_64 ?_
      refine V.iconst (pc := 67) (v := 0) hB dX10_reads_67 rfl ?_
      refine V.retI (pc := 68) hB dX10_reads_68 rfl (rfl) (by omega) (by omega) ?_
      exact Or.inr ⟨hno, rfl, by rw [hx]⟩
  refine V.aload_n (pc := 0) hB dX10_reads_0 rfl ?_
  refine V.get (pc := 1) hB fk_Model 18 wf_X10_197 dX10_reads_1 (by decide) (hp_at (ca_Model _)) rfl ?_
  refine V.iconst (pc := 4) (v := (-1)) hB dX10_reads_4 rfl ?_
  refine V.icmp_ne (pc := 5) (tgt := 44) hB dX10_reads_5 (by decide) (fun c_5 => ?_) (fun c_5 => ?_)
  · have hno : ¬ (m.1 363 18 = -1 ∧ rdB (m.1 370) N p lo hi = true) := fun w => c_5 w.1
    exact no hno sz
  · refine V.aload_n (pc := 8) hB dX10_reads_8 rfl ?_
    refine V.cv (pc := 9) hB cw_X10_letterHere wm_X10_200 wi_X10_letterHere ws_X10_letterHere dX10_reads_9 (c_X10_letterHere hG hS) (hp_at (ca_Model _)) fk_Model rfl (by omega) (by decide) rfl (by exact Nat.le_of_ble_eq_true rfl) (by omega) (by omega) kN (kI (fun v_9 m_9 sz h_9 => ?_)) rfl
    obtain ⟨rfl, hm_9⟩ := h_9
    obtain rfl := hm_9.symm
    refine V.iload_n (pc := 12) hB dX10_reads_12 rfl ?_
    refine V.iload_n (pc := 13) hB dX10_reads_13 rfl ?_
    refine V.cs (pc := 14) hB cw_X10_isIn wm_X10_69 wst_X10_isIn dX10_reads_14 (c_X10_isIn hG) (by omega) (by decide) rfl (by exact Nat.le_of_ble_eq_true rfl) (by omega) (by omega) kN (kI (fun v_14 m_14 sz h_14 => ?_)) rfl
    obtain ⟨rfl, hm_14⟩ := h_14
    obtain rfl := hm_14.symm
    rw [show (decide (lo ≤ if p < N then m.1 370 p else -1) && decide ((if p < N then m.1 370 p else -1) ≤ hi)) = rdB (m.1 370) N p lo hi from hrd]
    refine V.if_eq (pc := 17) (tgt := 44) hB dX10_reads_17 (by decide) (fun c_17 => ?_) (fun c_17 => ?_)
    · have hno : ¬ (m.1 363 18 = -1 ∧ rdB (m.1 370) N p lo hi = true) := fun w => by rw [w.2] at c_17; exact absurd c_17 (by decide)
      exact no hno sz
    · have hyes : rdB (m.1 370) N p lo hi = true := by
        cases hb : rdB (m.1 370) N p lo hi
        · rw [hb] at c_17; exact absurd rfl c_17
        · rfl
      have hlt : p < N := by
        unfold rdB at hyes
        rw [Bool.and_eq_true] at hyes
        exact of_decide_eq_true hyes.1
      refine V.aload_n (pc := 20) hB dX10_reads_20 rfl ?_
      refine V.dup (pc := 21) hB dX10_reads_21 rfl ?_
      refine V.get (pc := 22) hB fk_Model 17 wf_X10_191 dX10_reads_22 (by decide) (hp_at (ca_Model _)) rfl ?_
      rw [hS.2.2.1]
      refine V.iconst (pc := 25) (v := 1) hB dX10_reads_25 rfl ?_
      refine V.iadd (pc := 26) hB dX10_reads_26 ?_
      rw [nI_1]
      refine V.p_Model_f17 (pc := 27) hB wf_X10_191 dX10_reads_27 ?_
      refine V.aload_n (pc := 30) hB dX10_reads_30 rfl ?_
      refine V.get (pc := 31) hB fk_Model 11 wf_X10_35 dX10_reads_31 (by decide) (hp_at (ca_Model _)) rfl ?_
      refine V.aload_n (pc := 34) hB dX10_reads_34 rfl ?_
      refine V.get (pc := 35) hB fk_Model 17 wf_X10_191 dX10_reads_35 (by decide) (hp_at (ca_Model _)) rfl ?_
      rw [up_same]
      refine V.iconst (pc := 38) (v := 1) hB dX10_reads_38 rfl ?_
      refine V.isub (pc := 39) hB dX10_reads_39 ?_
      rw [show nI (p + 1) - 1 = nI p from (nI_subN (b := 1) (by omega)).trans (congrArg nI (by omega))]
      refine V.ialdM (pc := 40) hB (ca_Text) dX10_reads_40 (ix_nI (by have := hS.2.1; omega) (by decide)) ?_
      rw [show (up m 363 17 (nI (p + 1))).1 370 p = m.1 370 p from congrFun (up_cell _ _ _ (by decide)) p]
      refine V.iload_n (pc := 41) hB dX10_reads_41 rfl ?_
      refine V.isub (pc := 42) hB dX10_reads_42 ?_
      refine V.retI (pc := 43) hB dX10_reads_43 rfl (rfl) (by omega) (by omega) ?_
      exact Or.inl ⟨c_5, hyes, rfl, rfl⟩
