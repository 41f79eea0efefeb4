def mvM (i j N : Nat) (air : Int32) (m : Mem) : Mem := setRow m (LK i j + 2) (upto N (mvT air (m.1 (LK i j + 2)) N) (m.1 (LK i j + 2)))
def stM (i j N : Nat) (m : Mem) : Mem := setRow m (LK i j + 3) (upto N (addS (m.1 (LK i j + 2)) (m.1 (LK i j + 3)) N) (m.1 (LK i j + 3)))
def lk2 (i j : Nat) (rest : Bool) (m : Mem) : Mem := if rest = true then mvM i j (nLy m i j) (m.1 (LA i) 2) m else stM i j (nLy m i j) (mvM i j (nLy m i j) (m.1 (LA i) 2) m)
def lk3 (i j : Nat) (rest : Bool) (m : Mem) : Mem := ckEnd (nI j) (m.1 (LA i) 3) i j (nLy m i j) (lk2 i j rest m)
def lkN (i j : Nat) (rest : Bool) (m : Mem) : Nat := ckN (nI j) (m.1 (LA i) 3) i j (nLy m i j) (lk2 i j rest m) (nLy m i j)
def lkStep (i j : Nat) (rest : Bool) (m : Mem) : Mem := up (thawM i j (nLy m i j) (m.1 (LA i) 2) (lk3 i j rest m)) (LA i) 5 (m.1 (LA i) 5 + thawV i j (nLy m i j) (m.1 (LA i) 2) (lk3 i j rest m))
def lksM (i : Nat) (rest : Bool) (m : Mem) : Nat → Mem | 0 => m | q + 1 => lkStep i q rest (lksM i rest m q)
def lksN (i : Nat) (rest : Bool) (m : Mem) : Nat → Nat | 0 => 0 | q + 1 => lksN i rest m q + lkN i q rest (lksM i rest m q)
def hourM0 (i : Nat) (m : Mem) : Mem := up m (LA i) 3 (m.1 (LA i) 3 + 1)
def restB (i : Nat) (m : Mem) : Bool := meetB (m.1 (LA i + 3)) (m.1 (LA i + 4)) (m.1 (LA i) 3) (m.1 (LA i) 3) (nWn m i)
def hourM (i : Nat) (m : Mem) : Mem := lksM i (restB i (hourM0 i m)) (hourM0 i m) (nLk m i)
def hourN (i : Nat) (m : Mem) : Nat := lksN i (restB i (hourM0 i m)) (hourM0 i m) (nLk m i)
def hoursM (i : Nat) (m : Mem) : Nat → Mem | 0 => m | q + 1 => hourM i (hoursM i m q)
def hoursN (i : Nat) (m : Mem) : Nat → Nat | 0 => 0 | q + 1 => hoursN i m q + hourN i (hoursM i m q)
theorem lk2_cell {i j : Nat} {rest : Bool} {m : Mem} {k : Nat} (h : k < LK i j + 2 ∨ LK i j + 3 < k) : (lk2 i j rest m).1 k = m.1 k := by
  unfold lk2 stM mvM
  split
  · rw [setRow_cell _ _ (by omega)]
  · rw [setRow_cell _ _ (by omega), setRow_cell _ _ (by omega)]
theorem ckEnd_cell {num hr : Int32} {i j N : Nat} {m : Mem} {k : Nat} (h : k < LK i j ∨ LK i j + 3 < k ∨ k = LK i j + 1 ∨ k = LK i j + 2) (h2 : k < LA i + 5 ∨ LA i + 9 < k) : (ckEnd num hr i j N m).1 k = m.1 k := by
  unfold ckEnd
  rw [up_cell _ _ _ (by omega), ckM_cell (by omega) h2]
theorem ckEnd_slot {num hr : Int32} {i j N : Nat} {m : Mem} {f : Nat} (h : f ≠ 5) : (ckEnd num hr i j N m).1 (LK i j) f = m.1 (LK i j) f := by
  have := LK_ge i j
  unfold ckEnd
  rw [up_slot _ _ _ h, ckM_cell (by omega) (by omega)]
theorem lk3_cell {i j : Nat} {rest : Bool} {m : Mem} {k : Nat} (h : k < LK i j ∨ LK i j + 3 < k) (h2 : k < LA i + 5 ∨ LA i + 9 < k) : (lk3 i j rest m).1 k = m.1 k := by
  unfold lk3
  rw [ckEnd_cell (by omega) h2, lk2_cell (by omega)]
theorem lk3_slot {i j : Nat} {rest : Bool} {m : Mem} {f : Nat} (h : f ≠ 5) : (lk3 i j rest m).1 (LK i j) f = m.1 (LK i j) f := by
  unfold lk3
  rw [ckEnd_slot h, lk2_cell (by omega)]
theorem dropM_cell {i j N : Nat} {m : Mem} {k : Nat} (h : k < LK i j ∨ LK i j + 3 < k) : (dropM i j N m).1 k = m.1 k := by
  rw [dropM_eq, set3_o _ _ _ _ _ (by omega), up_cell _ _ _ (by omega)]
theorem thawM_cell {i j N : Nat} {air : Int32} {m : Mem} {k : Nat} (h : k < LK i j ∨ LK i j + 3 < k) : (thawM i j N air m).1 k = m.1 k := by
  unfold thawM
  split
  · rfl
  · split
    · rw [dropM_cell h, up_cell _ _ _ (by omega)]
    · rw [up_cell _ _ _ (by omega)]
theorem thawM_LN {i j N : Nat} {air : Int32} {m : Mem} (h : LN m i j N) : ∃ N', LN (thawM i j N air m) i j N' := by
  unfold thawM
  split
  · exact ⟨N, h⟩
  · split
    · refine ⟨N - 1, ?_, by have := h.2; omega⟩
      rw [dropM_eq, set3_o _ _ _ _ _ (by omega), up_same]
    · exact ⟨N, h.up _ (by omega)⟩
theorem lkStep_cell {i j : Nat} {rest : Bool} {m : Mem} {k : Nat} (h : k < LK i j ∨ LK i j + 3 < k) (h2 : k < LA i + 5 ∨ LA i + 9 < k) (h3 : k ≠ LA i) : (lkStep i j rest m).1 k = m.1 k := by
  unfold lkStep
  rw [up_cell _ _ _ h3, thawM_cell h, lk3_cell h h2]
theorem lkStep_slot {i j : Nat} {rest : Bool} {m : Mem} {f : Nat} (h : f ≠ 5) : (lkStep i j rest m).1 (LA i) f = m.1 (LA i) f := by
  have := LK_ge i j
  unfold lkStep
  rw [up_slot _ _ _ h, thawM_cell (by omega), lk3_cell (by omega) (by omega)]
theorem recM_KF {i w cn : Nat} {kd lk pt hr : Int32} {m : Mem} (hk : fits .char (.int kd) = true) (h : ∀ y, y < 16 → fits .char (.int (m.1 (LA i + 6) y)) = true) : ∀ y, y < 16 → fits .char (.int ((recM i w cn kd lk pt hr m).1 (LA i + 6) y)) = true := by
  intro y hy
  unfold recM
  rw [up_cell _ _ _ (by omega), up_cell _ _ _ (by omega), up_cell _ _ _ (by omega), up_cell _ _ _ (by omega), up_cell _ _ _ (by omega)]
  by_cases e : y = w
  · subst e; rw [up_same]; exact hk
  · rw [up_slot _ _ _ e]; exact h y hy
theorem ckM_KF {num hr : Int32} {i j N : Nat} {m : Mem} (h : ∀ y, y < 16 → fits .char (.int (m.1 (LA i + 6) y)) = true) : ∀ q, ∀ y, y < 16 → fits .char (.int ((ckM num hr i j N m q).1 (LA i + 6) y)) = true
  | 0 => h
  | q + 1 => by
    have hg := LK_ge i j
    intro y hy
    show fits .char (.int ((ckStep num hr i j N q (ckM num hr i j N m q)).1 (LA i + 6) y)) = true
    unfold ckStep
    split
    · rw [pushM_cell (by omega), pushM_cell (by omega), up_cell _ _ _ (by omega)]
      exact recM_KF (by decide) (ckM_KF h q) y hy
    · exact ckM_KF h q y hy
theorem lk2_LN {i j N : Nat} {rest : Bool} {m : Mem} (h : LN m i j N) : LN (lk2 i j rest m) i j N := ⟨by rw [lk2_cell (by omega)]; exact h.1, h.2⟩
theorem lk3_LN {i j N : Nat} {rest : Bool} {m : Mem} (h : LN m i j N) : LN (lk3 i j rest m) i j N := ⟨by rw [lk3_slot (by decide)]; exact h.1, h.2⟩
theorem lk2_PR {i j w cn : Nat} {rest : Bool} {m : Mem} (h : PR m i w cn) : PR (lk2 i j rest m) i w cn := h.row (lk2_cell (by have := LK_ge i j; omega))
theorem lk3_PR {i j : Nat} {rest : Bool} {m : Mem} (h : ∃ w cn, PR m i w cn) : ∃ w cn, PR (lk3 i j rest m) i w cn := by
  have hg := LK_ge i j
  obtain ⟨w, cn, hP⟩ := h
  obtain ⟨w', cn', hP'⟩ := ckM_PR (num := nI j) (hr := m.1 (LA i) 3) (j := j) (N := nLy m i j) ⟨w, cn, lk2_PR (rest := rest) (j := j) hP⟩ (nLy m i j)
  exact ⟨w', cn', hP'.row (by unfold lk3 ckEnd; rw [up_cell _ _ _ (by omega)])⟩
theorem lk3_KF {i j : Nat} {rest : Bool} {m : Mem} (h : ∀ y, y < 16 → fits .char (.int (m.1 (LA i + 6) y)) = true) : ∀ y, y < 16 → fits .char (.int ((lk3 i j rest m).1 (LA i + 6) y)) = true := by
  have hg := LK_ge i j
  intro y hy
  unfold lk3 ckEnd
  rw [up_cell _ _ _ (by omega)]
  exact ckM_KF (fun y hy => by rw [lk2_cell (by omega)]; exact h y hy) _ y hy
theorem lkStep_LW {i j : Nat} {rest : Bool} {m : Mem} (hL : LW m i) (hj : j < nLk m i) : LW (lkStep i j rest m) i ∧ nLk (lkStep i j rest m) i = nLk m i := by
  have hg := LK_ge i j
  have h5 := hL.nl5
  refine hL.lake (j := j) (lkStep_slot (by decide)) (lkStep_cell (by omega) (by omega) (by omega)) (fun j' h1 h2 => ?_) ?_ ?_ ?_
  · have h3 := LK_apart (i := i) h2
    have h4 := LK_ge i j'
    exact lkStep_cell (by omega) (by omega) (by omega)
  · obtain ⟨N', hN'⟩ := thawM_LN (air := m.1 (LA i) 2) (lk3_LN (rest := rest) (hL.ln hj))
    exact ⟨N', by unfold lkStep; exact hN'.up _ (by omega)⟩
  · obtain ⟨w, cn, hP⟩ := lk3_PR (rest := rest) (j := j) ⟨_, _, hL.pr⟩
    exact ⟨w, cn, hP.row (by unfold lkStep; rw [up_cell _ _ _ (by omega), thawM_cell (by omega)])⟩
  · intro y hy
    unfold lkStep
    rw [up_cell _ _ _ (by omega), thawM_cell (by omega)]
    exact lk3_KF hL.kf y hy
theorem lks_LW {i : Nat} {rest : Bool} {m : Mem} (hL : LW m i) : ∀ q, q ≤ nLk m i → LW (lksM i rest m q) i ∧ nLk (lksM i rest m q) i = nLk m i
  | 0, _ => ⟨hL, rfl⟩
  | q + 1, hq => by
    obtain ⟨h1, h2⟩ := lks_LW (rest := rest) hL q (by omega)
    obtain ⟨h3, h4⟩ := lkStep_LW (rest := rest) (j := q) h1 (by omega)
    exact ⟨h3, h4.trans h2⟩
/-- only the landscape's own row changed, but for the number of lakes -/
theorem LW.own {m m' : Mem} {i : Nat} (hL : LW m i) (h1 : m'.1 (LA i) 1 = m.1 (LA i) 1) (h2 : ∀ o, 0 < o → o < 30 → m'.1 (LA i + o) = m.1 (LA i + o)) : LW m' i ∧ nLk m' i = nLk m i := by
  refine LW.mk' (by rw [h1]; exact hL.nl) hL.nl5 (fun j hj => ⟨nLy m i j, ?_, (hL.ln hj).2⟩) ⟨nWn m i, by rw [h2 2 (by omega) (by omega)]; exact hL.wr.1, hL.wr.2⟩ ⟨_, _, hL.pr.row (h2 5 (by omega) (by omega))⟩ (fun y hy => by rw [h2 6 (by omega) (by omega)]; exact hL.kf y hy)
  have h3 := h2 (10 + 4 * j) (by omega) (by have := hL.nl5; omega)
  rw [show LA i + (10 + 4 * j) = LK i j by unfold LK; omega] at h3
  rw [h3]; exact (hL.ln hj).1
theorem hour0_LW {i : Nat} {m : Mem} (hL : LW m i) : LW (hourM0 i m) i ∧ nLk (hourM0 i m) i = nLk m i := by
  exact hL.own (by unfold hourM0; rw [up_slot _ _ _ (by decide)]) (fun o h1 h2 => by unfold hourM0; rw [up_cell _ _ _ (by omega)])
theorem hour_LW {i : Nat} {m : Mem} (hL : LW m i) : LW (hourM i m) i ∧ nLk (hourM i m) i = nLk m i := by
  obtain ⟨h1, h2⟩ := hour0_LW hL
  obtain ⟨h3, h4⟩ := lks_LW (rest := restB i (hourM0 i m)) h1 (nLk m i) (by omega)
  exact ⟨h3, h4.trans h2⟩
theorem hours_LW {i : Nat} {m : Mem} (hL : LW m i) : ∀ q, LW (hoursM i m q) i ∧ nLk (hoursM i m q) i = nLk m i
  | 0 => ⟨hL, rfl⟩
  | q + 1 => by
    obtain ⟨h1, h2⟩ := hours_LW hL q
    obtain ⟨h3, h4⟩ := hour_LW h1
    exact ⟨h3, h4.trans h2⟩

set_option maxRecDepth 100000 in
set_option maxHeartbeats 4000000 in
theorem c_X6_letHourPass {g : xG} (hG : GK g) {i : Nat} (hi : i < 11) {m : Mem} (hL : LW m i) : CC g yX6_letHourPass (.code yX6_letHourPass cX6_letHourPass 5 (some .int)) 5 0 0 [.ref (ad g (LA i))] m (rI (fun v m2 => v = nI (hourN i m) ∧ m2 = hourM i m)) noX := by
  have h5 := hL.nl5
  refine CC.mk hG RX6 rfl (by decide +kernel) rfl (Nat.le_of_ble_eq_true rfl) (fun sz B hB hX => ?_)
  show V g B 0 0 _ (hp g m) sz 0 [some (.ref (ad g (LA i))), none, none, none, none] []
  have loop : ∀ q : Nat, q ≤ nLk m i → ∀ (sz : Nat) (x4 : Option Value) (M : Mem), M = lksM i (restB i (hourM0 i m)) (hourM0 i m) q → V g B 0 0 (QM g B 0 0 (rI (fun v m2 => v = nI (hourN i m) ∧ m2 = hourM i m)) noX) (hp g (M)) sz 26 [some (.ref (ad g (LA i))), some (.int (if (restB i (hourM0 i m)) = true then 1 else 0)), some (.int (nI (lksN i (restB i (hourM0 i m)) (hourM0 i m) q))), some (.int (nI q)), x4] [] := by
    refine loop_up (fun q hq ih => ?_)
    intro sz x4 M hM
    obtain ⟨hLM, hnM⟩ : LW M i ∧ nLk M i = nLk m i := by
      have h0 := hour0_LW hL
      have h1 := lks_LW (rest := (restB i (hourM0 i m))) h0.1 q (by omega)
      rw [hM]
      exact ⟨h1.1, h1.2.trans h0.2⟩
    have hg := LK_ge i q
    refine V.iload_n (pc := 26) hB dX6_letHourPass_26 rfl ?_
    refine V.aload_n (pc := 27) hB dX6_letHourPass_27 rfl ?_
    refine V.get (pc := 28) hB fk_Land 1 wf_X6_17 dX6_letHourPass_28 (by decide) (hp_at (ca_Land (by omega) _)) rfl ?_
    refine V.icmp_ge (pc := 31) (tgt := 101) hB dX6_letHourPass_31 (by decide) (fun c_31 => ?_) (fun c_31 => ?_)
    · have hqN : q = nLk m i := nge (hLM.nl.trans (by rw [hnM])) (by omega) hq c_31
      refine V.iload_n (pc := 101) hB dX6_letHourPass_101 rfl ?_
      refine V.retI (pc := 102) hB dX6_letHourPass_102 rfl (rfl) (by omega) (by omega) ?_
      rw [hqN] at hM ⊢
      exact ⟨rfl, hM⟩
    · have hlt : q < nLk m i := nlt (hLM.nl.trans (by rw [hnM])) (by omega) hq c_31
      have hln := hLM.ln (j := q) (by omega)
      refine V.aload_n (pc := 34) hB dX6_letHourPass_34 rfl ?_
      refine V.get (pc := 35) hB fk_Land 0 wf_X6_11 dX6_letHourPass_35 (by decide) (hp_at (ca_Land (by omega) _)) rfl ?_
      refine V.iload_n (pc := 38) hB dX6_letHourPass_38 rfl ?_
      refine V.aaldLk (pc := 39) hB (by omega) dX6_letHourPass_39 (ix_nI (by omega) (by decide)) ?_
      refine V.astore (pc := 40) hB dX6_letHourPass_40 (by decide) rfl ?_
      refine V.aload (pc := 42) hB dX6_letHourPass_42 rfl ?_
      refine V.aload_n (pc := 44) hB dX6_letHourPass_44 rfl ?_
      refine V.get (pc := 45) hB fk_Land 2 wf_X6_21 dX6_letHourPass_45 (by decide) (hp_at (ca_Land (by omega) _)) rfl ?_
      refine V.cv (pc := 48) hB cw_X5_moveTemperatures wm_X6_86 wi_X5_moveTemperatures ws_X5_moveTemperatures dX6_letHourPass_48 (c_X5_moveTemperatures hG hi (by omega) hln) (hp_at (ca_Lake (by omega) (by omega) _)) fk_Lake rfl (by omega) (by decide) rfl (by exact Nat.le_of_ble_eq_true rfl) (by omega) (by omega) kN (kV (fun m_48 sz h_48 => ?_)) rfl
      subst h_48
      refine V.iload_n (pc := 51) hB dX6_letHourPass_51 rfl ?_
      refine V.if_ne (pc := 52) (tgt := 60) hB dX6_letHourPass_52 (by decide) (fun c_52 => ?_) (fun c_52 => ?_)
      · have hr : (restB i (hourM0 i m)) = true := Decidable.byContradiction (fun z => c_52 (if_neg z))
        refine V.mem (m2 := lk2 i q (restB i (hourM0 i m)) M) (by first | exact (if_pos hr).symm | exact (if_neg hr).symm) ?_
        refine V.iload_n (pc := 60) hB dX6_letHourPass_60 rfl ?_
        refine V.aload (pc := 61) hB dX6_letHourPass_61 rfl ?_
        refine V.iload_n (pc := 63) hB dX6_letHourPass_63 rfl ?_
        refine V.aload_n (pc := 64) hB dX6_letHourPass_64 rfl ?_
        refine V.get (pc := 65) hB fk_Land 3 wf_X6_24 dX6_letHourPass_65 (by decide) (hp_at (ca_Land (by omega) _)) rfl ?_
        rw [lk2_cell (by omega)]
        refine V.aload_n (pc := 68) hB dX6_letHourPass_68 rfl ?_
        refine V.get (pc := 69) hB fk_Land 7 wf_X6_43 dX6_letHourPass_69 (by decide) (hp_at (ca_Land (by omega) _)) rfl ?_
        refine V.cv (pc := 72) hB cw_X5_crackLayers wm_X6_92 wi_X5_crackLayers ws_X5_crackLayers dX6_letHourPass_72 (c_X5_crackLayers hG hi (by omega) (lk2_LN hln) ⟨_, _, lk2_PR hLM.pr⟩) (hp_at (ca_Lake (by omega) (by omega) _)) fk_Lake rfl (by omega) (by decide) rfl (by exact Nat.le_of_ble_eq_true rfl) (by omega) (by omega) kN (kI (fun v_72 m_72 sz h_72 => ?_)) rfl
        obtain ⟨rfl, rfl⟩ := h_72
        refine V.mem (m2 := lk3 i q (restB i (hourM0 i m)) M) rfl ?_
        refine V.iadd (pc := 75) hB dX6_letHourPass_75 ?_
        rw [nI_add]
        refine V.istore_n (pc := 76) hB dX6_letHourPass_76 (by decide) rfl ?_
        refine V.aload_n (pc := 77) hB dX6_letHourPass_77 rfl ?_
        refine V.dup (pc := 78) hB dX6_letHourPass_78 rfl ?_
        refine V.get (pc := 79) hB fk_Land 5 wf_X6_30 dX6_letHourPass_79 (by decide) (hp_at (ca_Land (by omega) _)) rfl ?_
        refine V.aload (pc := 82) hB dX6_letHourPass_82 rfl ?_
        refine V.aload_n (pc := 84) hB dX6_letHourPass_84 rfl ?_
        refine V.get (pc := 85) hB fk_Land 2 wf_X6_21 dX6_letHourPass_85 (by decide) (hp_at (ca_Land (by omega) _)) rfl ?_
        rw [lk3_cell (k := LA i) (by omega) (by omega)]
        refine V.cv (pc := 88) hB cw_X5_thawTop wm_X6_96 wi_X5_thawTop ws_X5_thawTop dX6_letHourPass_88 (c_X5_thawTop hG hi (by omega) (lk3_LN hln)) (hp_at (ca_Lake (by omega) (by omega) _)) fk_Lake rfl (by omega) (by decide) rfl (by exact Nat.le_of_ble_eq_true rfl) (by omega) (by omega) kN (kI (fun v_88 m_88 sz h_88 => ?_)) rfl
        obtain ⟨rfl, rfl⟩ := h_88
        refine V.iadd (pc := 91) hB dX6_letHourPass_91 ?_
        refine V.p_Land_thawed (pc := 92) hB wf_X6_30 dX6_letHourPass_92 (by omega) ?_
        refine V.iinc (pc := 95) (v := nI (q + 1)) hB dX6_letHourPass_95 rfl (nI_1 _) (by decide) rfl ?_
        refine V.goto (pc := 98) (tgt := 26) hB dX6_letHourPass_98 (by decide) ?_
        subst hM
        exact ih hlt sz _ _ rfl
      · have hr : ¬ (restB i (hourM0 i m)) = true := fun z => by rw [if_pos z] at c_52; exact absurd c_52 (by decide)
        refine V.aload (pc := 55) hB dX6_letHourPass_55 rfl ?_
        refine V.cv (pc := 57) hB cw_X5_addStrains wm_X6_89 wi_X5_addStrains ws_X5_addStrains dX6_letHourPass_57 (c_X5_addStrains hG hi (by omega) (hln.row _ (by omega))) (hp_at (ca_Lake (by omega) (by omega) _)) fk_Lake rfl (by omega) (by decide) rfl (by exact Nat.le_of_ble_eq_true rfl) (by omega) (by omega) kN (kV (fun m_57 sz h_57 => ?_)) rfl
        subst h_57
        refine V.mem (m2 := lk2 i q (restB i (hourM0 i m)) M) (by first | exact (if_pos hr).symm | exact (if_neg hr).symm) ?_
        refine V.iload_n (pc := 60) hB dX6_letHourPass_60 rfl ?_
        refine V.aload (pc := 61) hB dX6_letHourPass_61 rfl ?_
        refine V.iload_n (pc := 63) hB dX6_letHourPass_63 rfl ?_
        refine V.aload_n (pc := 64) hB dX6_letHourPass_64 rfl ?_
        refine V.get (pc := 65) hB fk_Land 3 wf_X6_24 dX6_letHourPass_65 (by decide) (hp_at (ca_Land (by omega) _)) rfl ?_
        rw [lk2_cell (by omega)]
        refine V.aload_n (pc := 68) hB dX6_letHourPass_68 rfl ?_
        refine V.get (pc := 69) hB fk_Land 7 wf_X6_43 dX6_letHourPass_69 (by decide) (hp_at (ca_Land (by omega) _)) rfl ?_
        refine V.cv (pc := 72) hB cw_X5_crackLayers wm_X6_92 wi_X5_crackLayers ws_X5_crackLayers dX6_letHourPass_72 (c_X5_crackLayers hG hi (by omega) (lk2_LN hln) ⟨_, _, lk2_PR hLM.pr⟩) (hp_at (ca_Lake (by omega) (by omega) _)) fk_Lake rfl (by omega) (by decide) rfl (by exact Nat.le_of_ble_eq_true rfl) (by omega) (by omega) kN (kI (fun v_72 m_72 sz h_72 => ?_)) rfl
        obtain ⟨rfl, rfl⟩ := h_72
        refine V.mem (m2 := lk3 i q (restB i (hourM0 i m)) M) rfl ?_
        refine V.iadd (pc := 75) hB dX6_letHourPass_75 ?_
        rw [nI_add]
        refine V.istore_n (pc := 76) hB dX6_letHourPass_76 (by decide) rfl ?_
        refine V.aload_n (pc := 77) hB dX6_letHourPass_77 rfl ?_
        refine V.dup (pc := 78) hB dX6_letHourPass_78 rfl ?_
        refine V.get (pc := 79) hB fk_Land 5 wf_X6_30 dX6_letHourPass_79 (by decide) (hp_at (ca_Land (by omega) _)) rfl ?_
        refine V.aload (pc := 82) hB dX6_letHourPass_82 rfl ?_
        refine V.aload_n (pc := 84) hB dX6_letHourPass_84 rfl ?_
        refine V.get (pc := 85) hB fk_Land 2 wf_X6_21 dX6_letHourPass_85 (by decide) (hp_at (ca_Land (by omega) _)) rfl ?_
        rw [lk3_cell (k := LA i) (by omega) (by omega)]
        refine V.cv (pc := 88) hB cw_X5_thawTop wm_X6_96 wi_X5_thawTop ws_X5_thawTop dX6_letHourPass_88 (c_X5_thawTop hG hi (by omega) (lk3_LN hln)) (hp_at (ca_Lake (by omega) (by omega) _)) fk_Lake rfl (by omega) (by decide) rfl (by exact Nat.le_of_ble_eq_true rfl) (by omega) (by omega) kN (kI (fun v_88 m_88 sz h_88 => ?_)) rfl
        obtain ⟨rfl, rfl⟩ := h_88
        refine V.iadd (pc := 91) hB dX6_letHourPass_91 ?_
        refine V.p_Land_thawed (pc := 92) hB wf_X6_30 dX6_letHourPass_92 (by omega) ?_
        refine V.iinc (pc := 95) (v := nI (q + 1)) hB dX6_letHourPass_95 rfl (nI_1 _) (by decide) rfl ?_
        refine V.goto (pc := 98) (tgt := 26) hB dX6_letHourPass_98 (by decide) ?_
        subst hM
        exact ih hlt sz _ _ rfl
  refine V.aload_n (pc := 0) hB dX6_letHourPass_0 rfl ?_
  refine V.dup (pc := 1) hB dX6_letHourPass_1 rfl ?_
  refine V.get (pc := 2) hB fk_Land 3 wf_X6_24 dX6_letHourPass_2 (by decide) (hp_at (ca_Land (by omega) _)) rfl ?_
  refine V.iconst (pc := 5) (v := 1) hB dX6_letHourPass_5 rfl ?_
  refine V.iadd (pc := 6) hB dX6_letHourPass_6 ?_
  refine V.p_Land_hour (pc := 7) hB wf_X6_24 dX6_letHourPass_7 (by omega) ?_
  refine V.aload_n (pc := 10) hB dX6_letHourPass_10 rfl ?_
  refine V.get (pc := 11) hB fk_Land 6 wf_X6_36 dX6_letHourPass_11 (by decide) (hp_at (ca_Land (by omega) _)) rfl ?_
  refine V.aload_n (pc := 14) hB dX6_letHourPass_14 rfl ?_
  have hL0 := hour0_LW hL
  refine V.mem (m2 := hourM0 i m) rfl ?_
  refine V.get (pc := 15) hB fk_Land 3 wf_X6_24 dX6_letHourPass_15 (by decide) (hp_at (ca_Land (by omega) _)) rfl ?_
  refine V.cv (pc := 18) hB cw_X8_contain wm_X6_83 wi_X8_contain ws_X8_contain dX6_letHourPass_18 (c_X8_contain hG hi hL0.1.wr) (hp_at (ca_Win (by omega) _)) fk_Win rfl (by omega) (by decide) rfl (by exact Nat.le_of_ble_eq_true rfl) (by omega) (by omega) kN (kI (fun v_18 m_18 sz h_18 => ?_)) rfl
  obtain ⟨rfl, rfl⟩ := h_18
  refine V.istore_n (pc := 21) hB dX6_letHourPass_21 (by decide) rfl ?_
  refine V.iconst (pc := 22) (v := 0) hB dX6_letHourPass_22 rfl ?_
  refine V.istore_n (pc := 23) hB dX6_letHourPass_23 (by decide) rfl ?_
  refine V.iconst (pc := 24) (v := 0) hB dX6_letHourPass_24 rfl ?_
  refine V.istore_n (pc := 25) hB dX6_letHourPass_25 (by decide) rfl ?_
  exact loop 0 (by omega) sz none _ rfl

set_option maxRecDepth 100000 in
set_option maxHeartbeats 4000000 in
theorem c_X6_letHoursPass {g : xG} (hG : GK g) {i : Nat} (hi : i < 11) {m : Mem} (hL : LW m i) {n : Nat} (hn : n ≤ 1000) : CC g yX6_letHoursPass (.code yX6_letHoursPass cX6_letHoursPass 4 (some .int)) 6 0 0 [.ref (ad g (LA i)), .int (nI n)] m (rI (fun v m2 => v = nI (hoursN i m n) ∧ m2 = hoursM i m n)) noX := by
  refine CC.mk hG RX6 rfl (by decide +kernel) rfl (Nat.le_of_ble_eq_true rfl) (fun sz B hB hX => ?_)
  show V g B 0 0 _ (hp g m) sz 0 [some (.ref (ad g (LA i))), some (.int (nI n)), none, none] []
  have loop : ∀ q : Nat, q ≤ n → ∀ (sz : Nat), V g B 0 0 (QM g B 0 0 (rI (fun v m2 => v = nI (hoursN i m n) ∧ m2 = hoursM i m n)) noX) (hp g (hoursM i m q)) sz 4 [some (.ref (ad g (LA i))), some (.int (nI n)), some (.int (nI (hoursN i m q))), some (.int (nI q))] [] := by
    refine loop_up (fun q hq ih => ?_)
    intro sz
    refine V.iload_n (pc := 4) hB dX6_letHoursPass_4 rfl ?_
    refine V.iload_n (pc := 5) hB dX6_letHoursPass_5 rfl ?_
    refine V.icmp_ge (pc := 6) (tgt := 22) hB dX6_letHoursPass_6 (by decide) (fun c_6 => ?_) (fun c_6 => ?_)
    · have hqN : q = n := nge rfl (by omega) hq c_6
      refine V.iload_n (pc := 22) hB dX6_letHoursPass_22 rfl ?_
      refine V.retI (pc := 23) hB dX6_letHoursPass_23 rfl (rfl) (by omega) (by omega) ?_
      rw [hqN]
      exact ⟨rfl, rfl⟩
    · have hlt : q < n := nlt rfl (by omega) hq c_6
      refine V.iload_n (pc := 9) hB dX6_letHoursPass_9 rfl ?_
      refine V.aload_n (pc := 10) hB dX6_letHoursPass_10 rfl ?_
      refine V.cv (pc := 11) hB cw_X6_letHourPass wm_X6_80 wi_X6_letHourPass ws_X6_letHourPass dX6_letHoursPass_11 (c_X6_letHourPass hG hi (hours_LW hL q).1) (hp_at (ca_Land (by omega) _)) fk_Land rfl (by omega) (by decide) rfl (by exact Nat.le_of_ble_eq_true rfl) (by omega) (by omega) kN (kI (fun v_11 m_11 sz h_11 => ?_)) rfl
      obtain ⟨rfl, rfl⟩ := h_11
      refine V.iadd (pc := 14) hB dX6_letHoursPass_14 ?_
      rw [nI_add]
      refine V.istore_n (pc := 15) hB dX6_letHoursPass_15 (by decide) rfl ?_
      refine V.iinc (pc := 16) (v := nI (q + 1)) hB dX6_letHoursPass_16 rfl (nI_1 _) (by decide) rfl ?_
      refine V.goto (pc := 19) (tgt := 4) hB dX6_letHoursPass_19 (by decide) ?_
      exact ih hlt sz
  refine V.iconst (pc := 0) (v := 0) hB dX6_letHoursPass_0 rfl ?_
  refine V.istore_n (pc := 1) hB dX6_letHoursPass_1 (by decide) rfl ?_
  refine V.iconst (pc := 2) (v := 0) hB dX6_letHoursPass_2 rfl ?_
  refine V.istore_n (pc := 3) hB dX6_letHoursPass_3 (by decide) rfl ?_
  exact loop 0 (by omega) sz

def HS (m : Mem) (w cn : Nat) : Prop := m.1 91 2 = nI w ∧ w < 8 ∧ m.1 91 1 = nI cn ∧ cn ≤ 8
def remH (i w cn : Nat) (m : Mem) : Mem := up (up (cpLand (3 + w) i m) 91 2 (nI ((w + 1) % 8))) 91 1 (nI (min (cn + 1) 8))
def backH (i w cn : Nat) (m : Mem) : Mem := up (cpLand i (3 + (w + 7) % 8) (up m 91 2 (nI ((w + 7) % 8)))) 91 1 (nI (cn - 1))
theorem cpLand_cell {i i2 : Nat} {m : Mem} (h5 : nLk m i2 ≤ 5) {k : Nat} (h : k < LA i ∨ LA i + 30 ≤ k) : (cpLand i i2 m).1 k = m.1 k := by
  unfold cpLand
  dsimp only
  rw [cpPeal_cell (by omega), cpWin_cell (by omega), up_cell _ _ _ (by omega), up_cell _ _ _ (by omega), up_cell _ _ _ (by omega), up_cell _ _ _ (by omega), up_cell _ _ _ (by omega), cpLks_cell (by omega) _ h5]
theorem LA_3 (w : Nat) : LA (3 + w) = 93 + 30 * w := by unfold LA; rw [if_neg (by omega)]; omega

set_option maxRecDepth 100000 in
set_option maxHeartbeats 4000000 in
theorem c_X3_remember {g : xG} (hG : GK g) {i w cn : Nat} (hi : i < 3) {m : Mem} (hH : HS m w cn) (hL : LW m i) : CC g yX3_remember (.code yX3_remember cX3_remember 2 none) 3 0 0 [.ref (ad g 91), .ref (ad g (LA i))] m (rV (fun m2 => m2 = remH i w cn m)) noX := by
  have hw := hH.2.1
  have hcn := hH.2.2.2
  refine CC.mk hG RX3 rfl (by decide +kernel) rfl (Nat.le_of_ble_eq_true rfl) (fun sz B hB hX => ?_)
  show V g B 0 0 _ (hp g m) sz 0 [some (.ref (ad g 91)), some (.ref (ad g (LA i)))] []
  refine V.aload_n (pc := 0) hB dX3_remember_0 rfl ?_
  refine V.get (pc := 1) hB fk_Hist 0 wf_X3_11 dX3_remember_1 (by decide) (hp_at (ca_Hist _)) rfl ?_
  refine V.aload_n (pc := 4) hB dX3_remember_4 rfl ?_
  refine V.get (pc := 5) hB fk_Hist 2 wf_X3_21 dX3_remember_5 (by decide) (hp_at (ca_Hist _)) rfl ?_
  refine V.aaldPast (pc := 8) hB dX3_remember_8 (by rw [hH.1]; exact ix_nI hw (by decide)) ?_
  refine V.aload_n (pc := 9) hB dX3_remember_9 rfl ?_
  refine V.cv (pc := 10) hB cw_X6_copyFrom wm_X3_25 wi_X6_copyFrom ws_X6_copyFrom dX3_remember_10 (c_X6_copyFrom hG (by omega) (by omega) (by omega) hL) (hp_at (ca_Land (by omega) _)) fk_Land rfl (by omega) (by decide) rfl (by exact Nat.le_of_ble_eq_true rfl) (by omega) (by omega) kN (kV (fun m_10 sz h_10 => ?_)) rfl
  subst h_10
  refine V.aload_n (pc := 13) hB dX3_remember_13 rfl ?_
  refine V.aload_n (pc := 14) hB dX3_remember_14 rfl ?_
  refine V.get (pc := 15) hB fk_Hist 2 wf_X3_21 dX3_remember_15 (by decide) (hp_at (ca_Hist _)) rfl ?_
  rw [cpLand_cell hL.nl5 (by rw [LA_3]; omega), hH.1]
  refine V.iconst (pc := 18) (v := 1) hB dX3_remember_18 rfl ?_
  refine V.iadd (pc := 19) hB dX3_remember_19 ?_
  rw [nI1]
  refine V.bipush (pc := 20) (v := 8) hB dX3_remember_20 rfl ?_
  refine V.irem (pc := 22) hB dX3_remember_22 (by decide) ?_
  rw [show nI (w + 1) - nI (w + 1) / 8 * 8 = nI ((w + 1) % 8) from pk_rem (d := 8) (by omega) (by decide) (by decide)]
  refine V.p_Hist_next (pc := 23) hB wf_X3_21 dX3_remember_23 ?_
  refine V.aload_n (pc := 26) hB dX3_remember_26 rfl ?_
  refine V.aload_n (pc := 27) hB dX3_remember_27 rfl ?_
  refine V.get (pc := 28) hB fk_Hist 1 wf_X3_17 dX3_remember_28 (by decide) (hp_at (ca_Hist _)) rfl ?_
  rw [up_slot _ _ _ (by decide), cpLand_cell hL.nl5 (by rw [LA_3]; omega), hH.2.2.1]
  refine V.iconst (pc := 31) (v := 1) hB dX3_remember_31 rfl ?_
  refine V.iadd (pc := 32) hB dX3_remember_32 ?_
  rw [nI1]
  refine V.bipush (pc := 33) (v := 8) hB dX3_remember_33 rfl ?_
  refine V.cs (pc := 35) hB cw_J9_min_7cf53 wm_X3_29 wst_J9_min_7cf53 dX3_remember_35 (c_J9_min_7cf53 hG) (by omega) (by decide) rfl (by exact Nat.le_of_ble_eq_true rfl) (by omega) (by omega) kN (kI (fun v_35 m_35 sz h_35 => ?_)) rfl
  obtain ⟨rfl, rfl⟩ := h_35
  rw [show (if (8 : Int32) < nI (cn + 1) then 8 else nI (cn + 1)) = nI (min (cn + 1) 8) from minI (M := 8) (by omega) (by decide)]
  refine V.p_Hist_count (pc := 38) hB wf_X3_17 dX3_remember_38 ?_
  refine V.retV (pc := 41) hB dX3_remember_41 rfl (by omega) (by omega) ?_
  exact rfl

set_option maxRecDepth 100000 in
set_option maxHeartbeats 4000000 in
theorem c_X3_forget {g : xG} (hG : GK g) {m : Mem} : CC g yX3_forget (.code yX3_forget cX3_forget 1 none) 1 0 0 [.ref (ad g 91)] m (rV (fun m2 => m2 = up m 91 1 0)) noX := by
  refine CC.mk hG RX3 rfl (by decide +kernel) rfl (Nat.le_of_ble_eq_true rfl) (fun sz B hB hX => ?_)
  show V g B 0 0 _ (hp g m) sz 0 [some (.ref (ad g 91))] []
  refine V.aload_n (pc := 0) hB dX3_forget_0 rfl ?_
  refine V.iconst (pc := 1) (v := 0) hB dX3_forget_1 rfl ?_
  refine V.p_Hist_count (pc := 2) hB wf_X3_17 dX3_forget_2 ?_
  refine V.retV (pc := 5) hB dX3_forget_5 rfl (by omega) (by omega) ?_
  exact rfl
