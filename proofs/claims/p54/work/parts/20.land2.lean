theorem LW.mk' {m : Mem} {i n : Nat} (h1 : m.1 (LA i) 1 = nI n) (h5 : n ≤ 5) (h2 : ∀ j, j < n → ∃ N, LN m i j N) (h3 : ∃ k, WR m i k) (h4 : ∃ w cn, PR m i w cn) (h6 : ∀ y, y < 16 → fits .char (.int (m.1 (LA i + 6) y)) = true) : LW m i ∧ nLk m i = n := by
  have hn : nLk m i = n := by unfold nLk; rw [h1, nI_clamp (by omega)]
  refine ⟨⟨by rw [hn]; exact ⟨h1, h5⟩, fun j hj => ?_, ?_, ?_, h6⟩, hn⟩
  · rw [hn] at hj
    obtain ⟨N, hN⟩ := h2 j hj
    have e : nLy m i j = N := by unfold nLy; rw [hN.1, nI_clamp (by have := hN.2; omega)]
    rw [e]; exact hN
  · obtain ⟨k, hk⟩ := h3
    have e : nWn m i = k := by unfold nWn; rw [hk.1, nI_clamp (by have := hk.2; omega)]
    rw [e]; exact hk
  · obtain ⟨w, cn, hP⟩ := h4
    rw [hP.w, hP.c]; exact hP
theorem nLy_eq {m : Mem} {i j N : Nat} (h : LN m i j N) : nLy m i j = N := by unfold nLy; rw [h.1, nI_clamp (by have := h.2; omega)]
/-- the same landscape in two memories -/
def Agr (m m' : Mem) (i : Nat) : Prop := ∀ o, o < 30 → m'.1 (LA i + o) = m.1 (LA i + o)
theorem Agr.lk {m m' : Mem} {i j : Nat} (h : Agr m m' i) (hj : j < 5) {o : Nat} (ho : o < 4) : m'.1 (LK i j + o) = m.1 (LK i j + o) := by
  have := h (10 + 4 * j + o) (by omega)
  rw [show LA i + (10 + 4 * j + o) = LK i j + o by unfold LK; omega] at this
  exact this
theorem Agr.lw {m m' : Mem} {i : Nat} (h : Agr m m' i) (hL : LW m i) : LW m' i ∧ nLk m' i = nLk m i := by
  refine LW.mk' (by rw [show LA i = LA i + 0 from rfl, h 0 (by omega)]; exact hL.nl) hL.nl5 (fun j hj => ⟨nLy m i j, (congrFun (h.lk (j := j) (Nat.lt_of_lt_of_le hj hL.nl5) (o := 0) (by omega)) 3).trans (hL.ln hj).1, (hL.ln hj).2⟩) ⟨nWn m i, (congrFun (h 2 (by omega)) 2).trans hL.wr.1, hL.wr.2⟩ ⟨_, _, hL.pr.row (h 5 (by omega))⟩ (fun y hy => by rw [h 6 (by omega)]; exact hL.kf y hy)
theorem LA_apart {i i2 : Nat} (h : i ≠ i2) : LA i + 30 ≤ LA i2 ∨ LA i2 + 30 ≤ LA i := by unfold LA; split <;> split <;> omega
theorem LK_apart {i j j2 : Nat} (h : j ≠ j2) : LK i j + 4 ≤ LK i j2 ∨ LK i j2 + 4 ≤ LK i j := by unfold LK; omega
theorem LK_in {i j : Nat} (hj : j < 5) : LA i + 10 ≤ LK i j ∧ LK i j + 4 ≤ LA i + 30 := by unfold LK; omega
/-- only one lake, the peals and the landscape's own row changed -/
theorem LW.lake {m m' : Mem} {i j : Nat} (hL : LW m i) (h1 : m'.1 (LA i) 1 = m.1 (LA i) 1) (h2 : m'.1 (LA i + 2) = m.1 (LA i + 2)) (h3 : ∀ j', j' < 5 → j' ≠ j → m'.1 (LK i j') = m.1 (LK i j')) (h4 : ∃ N, LN m' i j N) (h5 : ∃ w cn, PR m' i w cn) (h6 : ∀ y, y < 16 → fits .char (.int (m'.1 (LA i + 6) y)) = true) : LW m' i ∧ nLk m' i = nLk m i := by
  refine LW.mk' (by rw [h1]; exact hL.nl) hL.nl5 (fun j' hj' => ?_) ⟨nWn m i, by rw [h2]; exact hL.wr.1, hL.wr.2⟩ h5 h6
  by_cases e : j' = j
  · subst e; exact h4
  · exact ⟨nLy m i j', by rw [h3 j' (by have := hL.nl5; omega) e]; exact (hL.ln hj').1, (hL.ln hj').2⟩
def firstI (p : Nat → Bool) : Nat → Int32 | 0 => -1 | q + 1 => if firstI p q = -1 then (if p q = true then nI q else -1) else firstI p q
theorem firstI_stay {p : Nat → Bool} {q : Nat} (hq : q < 1000) (h0 : firstI p q = -1) (h1 : p q = true) : ∀ N, q < N → firstI p N = nI q := by
  intro N
  induction N with
  | zero => intro h; omega
  | succ N ih =>
    intro h
    by_cases e : N = q
    · subst e; show (if firstI p N = -1 then _ else _) = _; rw [if_pos h0, if_pos h1]
    · show (if firstI p N = -1 then _ else _) = _
      rw [ih (by omega), if_neg]
      intro z
      have h2 : (nI q).toInt = (-1 : Int32).toInt := by rw [z]
      rw [nI_toInt (by omega)] at h2
      have h3 : (-1 : Int32).toInt = -1 := by decide
      omega
theorem firstI_skip {p : Nat → Bool} {q : Nat} (h0 : firstI p q = -1) (h1 : ¬ p q = true) : firstI p (q + 1) = -1 := by
  show (if firstI p q = -1 then _ else _) = _
  rw [if_pos h0, if_neg h1]
def rkB (m : Mem) (i a b : Nat) : Bool := if iceV m i a = iceV m i b then (if m.1 (LK i a) 5 = m.1 (LK i b) 5 then decide (a < b) else decide (m.1 (LK i b) 5 < m.1 (LK i a) 5)) else decide (iceV m i b < iceV m i a)
def rankN (m : Mem) (i a : Nat) : Nat → Nat | 0 => 0 | q + 1 => rankN m i a q + if (decide (q ≠ a) && rkB m i q a) = true then 1 else 0
theorem rankN_le (m : Mem) (i a : Nat) : ∀ n, rankN m i a n ≤ n
  | 0 => Nat.le_refl 0
  | n + 1 => by have := rankN_le m i a n; show rankN m i a n + _ ≤ n + 1; split <;> omega

set_option maxRecDepth 100000 in
set_option maxHeartbeats 4000000 in
theorem c_X6_allCracks {g : xG} (hG : GK g) {i : Nat} (hi : i < 11) {m : Mem} (hL : LW m i) : CC g yX6_allCracks (.code yX6_allCracks cX6_allCracks 3 (some .int)) 1 0 0 [.ref (ad g (LA i))] m (rI (fun v m2 => v = l_sum (fun j => m.1 (LK i j) 5) (nLk m i) ∧ m2 = m)) noX := by
  have h5 := hL.nl5
  refine CC.mk hG RX6 rfl (by decide +kernel) rfl (Nat.le_of_ble_eq_true rfl) (fun sz B hB hX => ?_)
  show V g B 0 0 _ (hp g m) sz 0 [some (.ref (ad g (LA i))), none, none] []
  have loop : ∀ q : Nat, q ≤ nLk m i → V g B 0 0 (QM g B 0 0 (rI (fun v m2 => v = l_sum (fun j => m.1 (LK i j) 5) (nLk m i) ∧ m2 = m)) noX) (hp g (m)) sz 4 [some (.ref (ad g (LA i))), some (.int (l_sum (fun j => m.1 (LK i j) 5) q)), some (.int (nI q))] [] := by
    refine loop_up (fun q hq ih => ?_)
    refine V.iload_n (pc := 4) hB dX6_allCracks_4 rfl ?_
    refine V.aload_n (pc := 5) hB dX6_allCracks_5 rfl ?_
    refine V.get (pc := 6) hB fk_Land 1 wf_X6_17 dX6_allCracks_6 (by decide) (hp_at (ca_Land (by omega) _)) rfl ?_
    refine V.icmp_ge (pc := 9) (tgt := 30) hB dX6_allCracks_9 (by decide) (fun c_9 => ?_) (fun c_9 => ?_)
    · have hqN : q = nLk m i := nge hL.nl (by omega) hq c_9
      refine V.iload_n (pc := 30) hB dX6_allCracks_30 rfl ?_
      refine V.retI (pc := 31) hB dX6_allCracks_31 rfl (rfl) (by omega) (by omega) ?_
      rw [hqN]
      exact ⟨rfl, rfl⟩
    · have hlt : q < nLk m i := nlt hL.nl (by omega) hq c_9
      refine V.iload_n (pc := 12) hB dX6_allCracks_12 rfl ?_
      refine V.aload_n (pc := 13) hB dX6_allCracks_13 rfl ?_
      refine V.get (pc := 14) hB fk_Land 0 wf_X6_11 dX6_allCracks_14 (by decide) (hp_at (ca_Land (by omega) _)) rfl ?_
      refine V.iload_n (pc := 17) hB dX6_allCracks_17 rfl ?_
      refine V.aaldLk (pc := 18) hB (by omega) dX6_allCracks_18 (ix_nI (by omega) (by decide)) ?_
      refine V.get (pc := 19) hB fk_Lake 5 wf_X6_195 dX6_allCracks_19 (by decide) (hp_at (ca_Lake (by omega) (by omega) _)) rfl ?_
      refine V.iadd (pc := 22) hB dX6_allCracks_22 ?_
      refine V.istore_n (pc := 23) hB dX6_allCracks_23 (by decide) rfl ?_
      refine V.iinc (pc := 24) (v := nI (q + 1)) hB dX6_allCracks_24 rfl (nI_1 _) (by decide) rfl ?_
      refine V.goto (pc := 27) (tgt := 4) hB dX6_allCracks_27 (by decide) ?_
      exact ih hlt
  refine V.iconst (pc := 0) (v := 0) hB dX6_allCracks_0 rfl ?_
  refine V.istore_n (pc := 1) hB dX6_allCracks_1 (by decide) rfl ?_
  refine V.iconst (pc := 2) (v := 0) hB dX6_allCracks_2 rfl ?_
  refine V.istore_n (pc := 3) hB dX6_allCracks_3 (by decide) rfl ?_
  exact loop 0 (by omega)

set_option maxRecDepth 100000 in
set_option maxHeartbeats 4000000 in
theorem c_X6_allIce {g : xG} (hG : GK g) {i : Nat} (hi : i < 11) {m : Mem} (hL : LW m i) : CC g yX6_allIce (.code yX6_allIce cX6_allIce 3 (some .int)) 3 0 0 [.ref (ad g (LA i))] m (rI (fun v m2 => v = l_sum (iceV m i) (nLk m i) ∧ m2 = m)) noX := by
  have h5 := hL.nl5
  refine CC.mk hG RX6 rfl (by decide +kernel) rfl (Nat.le_of_ble_eq_true rfl) (fun sz B hB hX => ?_)
  show V g B 0 0 _ (hp g m) sz 0 [some (.ref (ad g (LA i))), none, none] []
  have loop : ∀ q : Nat, q ≤ nLk m i → ∀ (sz : Nat), V g B 0 0 (QM g B 0 0 (rI (fun v m2 => v = l_sum (iceV m i) (nLk m i) ∧ m2 = m)) noX) (hp g (m)) sz 4 [some (.ref (ad g (LA i))), some (.int (l_sum (iceV m i) q)), some (.int (nI q))] [] := by
    refine loop_up (fun q hq ih => ?_)
    intro sz
    refine V.iload_n (pc := 4) hB dX6_allIce_4 rfl ?_
    refine V.aload_n (pc := 5) hB dX6_allIce_5 rfl ?_
    refine V.get (pc := 6) hB fk_Land 1 wf_X6_17 dX6_allIce_6 (by decide) (hp_at (ca_Land (by omega) _)) rfl ?_
    refine V.icmp_ge (pc := 9) (tgt := 30) hB dX6_allIce_9 (by decide) (fun c_9 => ?_) (fun c_9 => ?_)
    · have hqN : q = nLk m i := nge hL.nl (by omega) hq c_9
      refine V.iload_n (pc := 30) hB dX6_allIce_30 rfl ?_
      refine V.retI (pc := 31) hB dX6_allIce_31 rfl (rfl) (by omega) (by omega) ?_
      rw [hqN]
      exact ⟨rfl, rfl⟩
    · have hlt : q < nLk m i := nlt hL.nl (by omega) hq c_9
      refine V.iload_n (pc := 12) hB dX6_allIce_12 rfl ?_
      refine V.aload_n (pc := 13) hB dX6_allIce_13 rfl ?_
      refine V.get (pc := 14) hB fk_Land 0 wf_X6_11 dX6_allIce_14 (by decide) (hp_at (ca_Land (by omega) _)) rfl ?_
      refine V.iload_n (pc := 17) hB dX6_allIce_17 rfl ?_
      refine V.aaldLk (pc := 18) hB (by omega) dX6_allIce_18 (ix_nI (by omega) (by decide)) ?_
      refine V.cv (pc := 19) hB cw_X5_iceByLayers wm_X6_69 wi_X5_iceByLayers ws_X5_iceByLayers dX6_allIce_19 (c_X5_iceByLayers hG hi (by omega) (hL.ln hlt)) (hp_at (ca_Lake (by omega) (by omega) _)) fk_Lake rfl (by omega) (by decide) rfl (by exact Nat.le_of_ble_eq_true rfl) (by omega) (by omega) kN (kI (fun v_19 m_19 sz h_19 => ?_)) rfl
      obtain ⟨rfl, rfl⟩ := h_19
      refine V.iadd (pc := 22) hB dX6_allIce_22 ?_
      refine V.istore_n (pc := 23) hB dX6_allIce_23 (by decide) rfl ?_
      refine V.iinc (pc := 24) (v := nI (q + 1)) hB dX6_allIce_24 rfl (nI_1 _) (by decide) rfl ?_
      refine V.goto (pc := 27) (tgt := 4) hB dX6_allIce_27 (by decide) ?_
      exact ih hlt sz
  refine V.iconst (pc := 0) (v := 0) hB dX6_allIce_0 rfl ?_
  refine V.istore_n (pc := 1) hB dX6_allIce_1 (by decide) rfl ?_
  refine V.iconst (pc := 2) (v := 0) hB dX6_allIce_2 rfl ?_
  refine V.istore_n (pc := 3) hB dX6_allIce_3 (by decide) rfl ?_
  exact loop 0 (by omega) sz

set_option maxRecDepth 100000 in
set_option maxHeartbeats 4000000 in
theorem c_X6_bothSumsAgree {g : xG} (hG : GK g) {i : Nat} (hi : i < 11) {m : Mem} (hL : LW m i) : CC g yX6_bothSumsAgree (.code yX6_bothSumsAgree cX6_bothSumsAgree 2 (some .boolean)) 6 0 0 [.ref (ad g (LA i))] m (rI (fun v m2 => v = 1 ∧ m2 = m)) noX := by
  have h5 := hL.nl5
  refine CC.mk hG RX6 rfl (by decide +kernel) rfl (Nat.le_of_ble_eq_true rfl) (fun sz B hB hX => ?_)
  show V g B 0 0 _ (hp g m) sz 0 [some (.ref (ad g (LA i))), none] []
  have loop : ∀ q : Nat, q ≤ nLk m i → ∀ (sz : Nat), V g B 0 0 (QM g B 0 0 (rI (fun v m2 => v = 1 ∧ m2 = m)) noX) (hp g (m)) sz 2 [some (.ref (ad g (LA i))), some (.int (nI q))] [] := by
    refine loop_up (fun q hq ih => ?_)
    intro sz
    refine V.iload_n (pc := 2) hB dX6_bothSumsAgree_2 rfl ?_
    refine V.aload_n (pc := 3) hB dX6_bothSumsAgree_3 rfl ?_
    refine V.get (pc := 4) hB fk_Land 1 wf_X6_17 dX6_bothSumsAgree_4 (by decide) (hp_at (ca_Land (by omega) _)) rfl ?_
    refine V.icmp_ge (pc := 7) (tgt := 39) hB dX6_bothSumsAgree_7 (by decide) (fun c_7 => ?_) (fun c_7 => ?_)
    · refine V.iconst (pc := 39) (v := 1) hB dX6_bothSumsAgree_39 rfl ?_
      refine V.retI (pc := 40) hB dX6_bothSumsAgree_40 rfl (rfl) (by omega) (by omega) ?_
      exact ⟨rfl, rfl⟩
    · have hlt : q < nLk m i := nlt hL.nl (by omega) hq c_7
      refine V.aload_n (pc := 10) hB dX6_bothSumsAgree_10 rfl ?_
      refine V.get (pc := 11) hB fk_Land 0 wf_X6_11 dX6_bothSumsAgree_11 (by decide) (hp_at (ca_Land (by omega) _)) rfl ?_
      refine V.iload_n (pc := 14) hB dX6_bothSumsAgree_14 rfl ?_
      refine V.aaldLk (pc := 15) hB (by omega) dX6_bothSumsAgree_15 (ix_nI (by omega) (by decide)) ?_
      refine V.cv (pc := 16) hB cw_X5_iceByLayers wm_X6_69 wi_X5_iceByLayers ws_X5_iceByLayers dX6_bothSumsAgree_16 (c_X5_iceByLayers hG hi (by omega) (hL.ln hlt)) (hp_at (ca_Lake (by omega) (by omega) _)) fk_Lake rfl (by omega) (by decide) rfl (by exact Nat.le_of_ble_eq_true rfl) (by omega) (by omega) kN (kI (fun v_16 m_16 sz h_16 => ?_)) rfl
      obtain ⟨rfl, rfl⟩ := h_16
      refine V.aload_n (pc := 19) hB dX6_bothSumsAgree_19 rfl ?_
      refine V.get (pc := 20) hB fk_Land 0 wf_X6_11 dX6_bothSumsAgree_20 (by decide) (hp_at (ca_Land (by omega) _)) rfl ?_
      refine V.iload_n (pc := 23) hB dX6_bothSumsAgree_23 rfl ?_
      refine V.aaldLk (pc := 24) hB (by omega) dX6_bothSumsAgree_24 (ix_nI (by omega) (by decide)) ?_
      refine V.cv (pc := 25) hB cw_X5_iceByHalves wm_X6_198 wi_X5_iceByHalves ws_X5_iceByHalves dX6_bothSumsAgree_25 (c_X5_iceByHalves hG hi (by omega) (hL.ln hlt)) (hp_at (ca_Lake (by omega) (by omega) _)) fk_Lake rfl (by omega) (by decide) rfl (by exact Nat.le_of_ble_eq_true rfl) (by omega) (by omega) kN (kI (fun v_25 m_25 sz h_25 => ?_)) rfl
      obtain ⟨rfl, rfl⟩ := h_25
      refine V.icmp_eq (pc := 28) (tgt := 33) hB dX6_bothSumsAgree_28 (by decide) (fun c_28 => ?_) (fun c_28 => ?_)
      · refine V.iinc (pc := 33) (v := nI (q + 1)) hB dX6_bothSumsAgree_33 rfl (nI_1 _) (by decide) rfl ?_
        refine V.goto (pc := 36) (tgt := 2) hB dX6_bothSumsAgree_36 (by decide) ?_
        exact ih hlt _
      · exact absurd rfl c_28
  refine V.iconst (pc := 0) (v := 0) hB dX6_bothSumsAgree_0 rfl ?_
  refine V.istore_n (pc := 1) hB dX6_bothSumsAgree_1 (by decide) rfl ?_
  exact loop 0 (by omega) sz

set_option maxRecDepth 100000 in
set_option maxHeartbeats 4000000 in
theorem c_X6_ranksBefore {g : xG} (hG : GK g) {i : Nat} (hi : i < 11) {m : Mem} (hL : LW m i) {a b : Nat} (ha : a < nLk m i) (hb : b < nLk m i) : CC g yX6_ranksBefore (.code yX6_ranksBefore cX6_ranksBefore 5 (some .boolean)) 3 0 0 [.ref (ad g (LA i)), .int (nI a), .int (nI b)] m (rI (fun v m2 => v = (if rkB m i a b = true then 1 else 0) ∧ m2 = m)) noX := by
  have h5 := hL.nl5
  refine CC.mk hG RX6 rfl (by decide +kernel) rfl (Nat.le_of_ble_eq_true rfl) (fun sz B hB hX => ?_)
  show V g B 0 0 _ (hp g m) sz 0 [some (.ref (ad g (LA i))), some (.int (nI a)), some (.int (nI b)), none, none] []
  refine V.aload_n (pc := 0) hB dX6_ranksBefore_0 rfl ?_
  refine V.get (pc := 1) hB fk_Land 0 wf_X6_11 dX6_ranksBefore_1 (by decide) (hp_at (ca_Land (by omega) _)) rfl ?_
  refine V.iload_n (pc := 4) hB dX6_ranksBefore_4 rfl ?_
  refine V.aaldLk (pc := 5) hB (by omega) dX6_ranksBefore_5 (ix_nI (by omega) (by decide)) ?_
  refine V.cv (pc := 6) hB cw_X5_iceByLayers wm_X6_69 wi_X5_iceByLayers ws_X5_iceByLayers dX6_ranksBefore_6 (c_X5_iceByLayers hG hi (by omega) (hL.ln ha)) (hp_at (ca_Lake (by omega) (by omega) _)) fk_Lake rfl (by omega) (by decide) rfl (by exact Nat.le_of_ble_eq_true rfl) (by omega) (by omega) kN (kI (fun v_6 m_6 sz h_6 => ?_)) rfl
  obtain ⟨rfl, rfl⟩ := h_6
  refine V.istore_n (pc := 9) hB dX6_ranksBefore_9 (by decide) rfl ?_
  refine V.aload_n (pc := 10) hB dX6_ranksBefore_10 rfl ?_
  refine V.get (pc := 11) hB fk_Land 0 wf_X6_11 dX6_ranksBefore_11 (by decide) (hp_at (ca_Land (by omega) _)) rfl ?_
  refine V.iload_n (pc := 14) hB dX6_ranksBefore_14 rfl ?_
  refine V.aaldLk (pc := 15) hB (by omega) dX6_ranksBefore_15 (ix_nI (by omega) (by decide)) ?_
  refine V.cv (pc := 16) hB cw_X5_iceByLayers wm_X6_69 wi_X5_iceByLayers ws_X5_iceByLayers dX6_ranksBefore_16 (c_X5_iceByLayers hG hi (by omega) (hL.ln hb)) (hp_at (ca_Lake (by omega) (by omega) _)) fk_Lake rfl (by omega) (by decide) rfl (by exact Nat.le_of_ble_eq_true rfl) (by omega) (by omega) kN (kI (fun v_16 m_16 sz h_16 => ?_)) rfl
  obtain ⟨rfl, rfl⟩ := h_16
  refine V.istore (pc := 19) hB dX6_ranksBefore_19 (by decide) rfl ?_
  refine V.iload_n (pc := 21) hB dX6_ranksBefore_21 rfl ?_
  refine V.iload (pc := 22) hB dX6_ranksBefore_22 rfl ?_
  refine V.icmp_eq (pc := 24) (tgt := 39) hB dX6_ranksBefore_24 (by decide) (fun c_24 => ?_) (fun c_24 => ?_)
  · refine V.aload_n (pc := 39) hB dX6_ranksBefore_39 rfl ?_
    refine V.get (pc := 40) hB fk_Land 0 wf_X6_11 dX6_ranksBefore_40 (by decide) (hp_at (ca_Land (by omega) _)) rfl ?_
    refine V.iload_n (pc := 43) hB dX6_ranksBefore_43 rfl ?_
    refine V.aaldLk (pc := 44) hB (by omega) dX6_ranksBefore_44 (ix_nI (by omega) (by decide)) ?_
    refine V.get (pc := 45) hB fk_Lake 5 wf_X6_195 dX6_ranksBefore_45 (by decide) (hp_at (ca_Lake (by omega) (by omega) _)) rfl ?_
    refine V.aload_n (pc := 48) hB dX6_ranksBefore_48 rfl ?_
    refine V.get (pc := 49) hB fk_Land 0 wf_X6_11 dX6_ranksBefore_49 (by decide) (hp_at (ca_Land (by omega) _)) rfl ?_
    refine V.iload_n (pc := 52) hB dX6_ranksBefore_52 rfl ?_
    refine V.aaldLk (pc := 53) hB (by omega) dX6_ranksBefore_53 (ix_nI (by omega) (by decide)) ?_
    refine V.get (pc := 54) hB fk_Lake 5 wf_X6_195 dX6_ranksBefore_54 (by decide) (hp_at (ca_Lake (by omega) (by omega) _)) rfl ?_
    refine V.icmp_eq (pc := 57) (tgt := 87) hB dX6_ranksBefore_57 (by decide) (fun c_57 => ?_) (fun c_57 => ?_)
    · refine V.iload_n (pc := 87) hB dX6_ranksBefore_87 rfl ?_
      refine V.iload_n (pc := 88) hB dX6_ranksBefore_88 rfl ?_
      refine V.icmp_ge (pc := 89) (tgt := 96) hB dX6_ranksBefore_89 (by decide) (fun c_89 => ?_) (fun c_89 => ?_)
      · refine V.iconst (pc := 96) (v := 0) hB dX6_ranksBefore_96 rfl ?_
        refine V.retI (pc := 97) hB dX6_ranksBefore_97 rfl (rfl) (by omega) (by omega) ?_
        refine ⟨?_, rfl⟩
        unfold rkB iceV
        first
        | (rw [if_neg c_24, decide_eq_true (Int32.not_le.mp c_30)]; rfl)
        | (rw [if_neg c_24, decide_eq_false (Int32.not_lt.mpr c_30)]; rfl)
        | (rw [if_pos c_24, if_neg c_57, decide_eq_true (Int32.not_le.mp c_78)]; rfl)
        | (rw [if_pos c_24, if_neg c_57, decide_eq_false (Int32.not_lt.mpr c_78)]; rfl)
        | (rw [if_pos c_24, if_pos c_57, decide_eq_true (Nat.not_le.mp (fun z => c_89 ((nI_leI (by omega) (by omega)).mpr z)))]; rfl)
        | (rw [if_pos c_24, if_pos c_57, decide_eq_false (Nat.not_lt.mpr ((nI_leI (by omega) (by omega)).mp c_89))]; rfl)
      · refine V.iconst (pc := 92) (v := 1) hB dX6_ranksBefore_92 rfl ?_
        refine V.goto (pc := 93) (tgt := 97) hB dX6_ranksBefore_93 (by decide) ?_
        refine V.retI (pc := 97) hB dX6_ranksBefore_97 rfl (rfl) (by omega) (by omega) ?_
        refine ⟨?_, rfl⟩
        unfold rkB iceV
        first
        | (rw [if_neg c_24, decide_eq_true (Int32.not_le.mp c_30)]; rfl)
        | (rw [if_neg c_24, decide_eq_false (Int32.not_lt.mpr c_30)]; rfl)
        | (rw [if_pos c_24, if_neg c_57, decide_eq_true (Int32.not_le.mp c_78)]; rfl)
        | (rw [if_pos c_24, if_neg c_57, decide_eq_false (Int32.not_lt.mpr c_78)]; rfl)
        | (rw [if_pos c_24, if_pos c_57, decide_eq_true (Nat.not_le.mp (fun z => c_89 ((nI_leI (by omega) (by omega)).mpr z)))]; rfl)
        | (rw [if_pos c_24, if_pos c_57, decide_eq_false (Nat.not_lt.mpr ((nI_leI (by omega) (by omega)).mp c_89))]; rfl)
    · refine V.aload_n (pc := 60) hB dX6_ranksBefore_60 rfl ?_
      refine V.get (pc := 61) hB fk_Land 0 wf_X6_11 dX6_ranksBefore_61 (by decide) (hp_at (ca_Land (by omega) _)) rfl ?_
      refine V.iload_n (pc := 64) hB dX6_ranksBefore_64 rfl ?_
      refine V.aaldLk (pc := 65) hB (by omega) dX6_ranksBefore_65 (ix_nI (by omega) (by decide)) ?_
      refine V.get (pc := 66) hB fk_Lake 5 wf_X6_195 dX6_ranksBefore_66 (by decide) (hp_at (ca_Lake (by omega) (by omega) _)) rfl ?_
      refine V.aload_n (pc := 69) hB dX6_ranksBefore_69 rfl ?_
      refine V.get (pc := 70) hB fk_Land 0 wf_X6_11 dX6_ranksBefore_70 (by decide) (hp_at (ca_Land (by omega) _)) rfl ?_
      refine V.iload_n (pc := 73) hB dX6_ranksBefore_73 rfl ?_
      refine V.aaldLk (pc := 74) hB (by omega) dX6_ranksBefore_74 (ix_nI (by omega) (by decide)) ?_
      refine V.get (pc := 75) hB fk_Lake 5 wf_X6_195 dX6_ranksBefore_75 (by decide) (hp_at (ca_Lake (by omega) (by omega) _)) rfl ?_
      refine V.icmp_le (pc := 78) (tgt := 85) hB dX6_ranksBefore_78 (by decide) (fun c_78 => ?_) (fun c_78 => ?_)
      · refine V.iconst (pc := 85) (v := 0) hB dX6_ranksBefore_85 rfl ?_
        refine V.retI (pc := 86) hB dX6_ranksBefore_86 rfl (rfl) (by omega) (by omega) ?_
        refine ⟨?_, rfl⟩
        unfold rkB iceV
        first
        | (rw [if_neg c_24, decide_eq_true (Int32.not_le.mp c_30)]; rfl)
        | (rw [if_neg c_24, decide_eq_false (Int32.not_lt.mpr c_30)]; rfl)
        | (rw [if_pos c_24, if_neg c_57, decide_eq_true (Int32.not_le.mp c_78)]; rfl)
        | (rw [if_pos c_24, if_neg c_57, decide_eq_false (Int32.not_lt.mpr c_78)]; rfl)
        | (rw [if_pos c_24, if_pos c_57, decide_eq_true (Nat.not_le.mp (fun z => c_89 ((nI_leI (by omega) (by omega)).mpr z)))]; rfl)
        | (rw [if_pos c_24, if_pos c_57, decide_eq_false (Nat.not_lt.mpr ((nI_leI (by omega) (by omega)).mp c_89))]; rfl)
      · refine V.iconst (pc := 81) (v := 1) hB dX6_ranksBefore_81 rfl ?_
        refine V.goto (pc := 82) (tgt := 86) hB dX6_ranksBefore_82 (by decide) ?_
        refine V.retI (pc := 86) hB dX6_ranksBefore_86 rfl (rfl) (by omega) (by omega) ?_
        refine ⟨?_, rfl⟩
        unfold rkB iceV
        first
        | (rw [if_neg c_24, decide_eq_true (Int32.not_le.mp c_30)]; rfl)
        | (rw [if_neg c_24, decide_eq_false (Int32.not_lt.mpr c_30)]; rfl)
        | (rw [if_pos c_24, if_neg c_57, decide_eq_true (Int32.not_le.mp c_78)]; rfl)
        | (rw [if_pos c_24, if_neg c_57, decide_eq_false (Int32.not_lt.mpr c_78)]; rfl)
        | (rw [if_pos c_24, if_pos c_57, decide_eq_true (Nat.not_le.mp (fun z => c_89 ((nI_leI (by omega) (by omega)).mpr z)))]; rfl)
        | (rw [if_pos c_24, if_pos c_57, decide_eq_false (Nat.not_lt.mpr ((nI_leI (by omega) (by omega)).mp c_89))]; rfl)
  · refine V.iload_n (pc := 27) hB dX6_ranksBefore_27 rfl ?_
    refine V.iload (pc := 28) hB dX6_ranksBefore_28 rfl ?_
    refine V.icmp_le (pc := 30) (tgt := 37) hB dX6_ranksBefore_30 (by decide) (fun c_30 => ?_) (fun c_30 => ?_)
    · refine V.iconst (pc := 37) (v := 0) hB dX6_ranksBefore_37 rfl ?_
      refine V.retI (pc := 38) hB dX6_ranksBefore_38 rfl (rfl) (by omega) (by omega) ?_
      refine ⟨?_, rfl⟩
      unfold rkB iceV
      first
      | (rw [if_neg c_24, decide_eq_true (Int32.not_le.mp c_30)]; rfl)
      | (rw [if_neg c_24, decide_eq_false (Int32.not_lt.mpr c_30)]; rfl)
      | (rw [if_pos c_24, if_neg c_57, decide_eq_true (Int32.not_le.mp c_78)]; rfl)
      | (rw [if_pos c_24, if_neg c_57, decide_eq_false (Int32.not_lt.mpr c_78)]; rfl)
      | (rw [if_pos c_24, if_pos c_57, decide_eq_true (Nat.not_le.mp (fun z => c_89 ((nI_leI (by omega) (by omega)).mpr z)))]; rfl)
      | (rw [if_pos c_24, if_pos c_57, decide_eq_false (Nat.not_lt.mpr ((nI_leI (by omega) (by omega)).mp c_89))]; rfl)
    · refine V.iconst (pc := 33) (v := 1) hB dX6_ranksBefore_33 rfl ?_
      refine V.goto (pc := 34) (tgt := 38) hB dX6_ranksBefore_34 (by decide) ?_
      refine V.retI (pc := 38) hB dX6_ranksBefore_38 rfl (rfl) (by omega) (by omega) ?_
      refine ⟨?_, rfl⟩
      unfold rkB iceV
      first
      | (rw [if_neg c_24, decide_eq_true (Int32.not_le.mp c_30)]; rfl)
      | (rw [if_neg c_24, decide_eq_false (Int32.not_lt.mpr c_30)]; rfl)
      | (rw [if_pos c_24, if_neg c_57, decide_eq_true (Int32.not_le.mp c_78)]; rfl)
      | (rw [if_pos c_24, if_neg c_57, decide_eq_false (Int32.not_lt.mpr c_78)]; rfl)
      | (rw [if_pos c_24, if_pos c_57, decide_eq_true (Nat.not_le.mp (fun z => c_89 ((nI_leI (by omega) (by omega)).mpr z)))]; rfl)
      | (rw [if_pos c_24, if_pos c_57, decide_eq_false (Nat.not_lt.mpr ((nI_leI (by omega) (by omega)).mp c_89))]; rfl)

set_option maxRecDepth 100000 in
set_option maxHeartbeats 4000000 in
theorem c_X6_rankOf {g : xG} (hG : GK g) {i : Nat} (hi : i < 11) {m : Mem} (hL : LW m i) {a : Nat} (ha : a < nLk m i) : CC g yX6_rankOf (.code yX6_rankOf cX6_rankOf 4 (some .int)) 4 0 0 [.ref (ad g (LA i)), .int (nI a)] m (rI (fun v m2 => v = nI (rankN m i a (nLk m i)) ∧ m2 = m)) noX := by
  have h5 := hL.nl5
  refine CC.mk hG RX6 rfl (by decide +kernel) rfl (Nat.le_of_ble_eq_true rfl) (fun sz B hB hX => ?_)
  show V g B 0 0 _ (hp g m) sz 0 [some (.ref (ad g (LA i))), some (.int (nI a)), none, none] []
  have loop : ∀ q : Nat, q ≤ nLk m i → ∀ (sz : Nat), V g B 0 0 (QM g B 0 0 (rI (fun v m2 => v = nI (rankN m i a (nLk m i)) ∧ m2 = m)) noX) (hp g (m)) sz 4 [some (.ref (ad g (LA i))), some (.int (nI a)), some (.int (nI (rankN m i a q))), some (.int (nI q))] [] := by
    refine loop_up (fun q hq ih => ?_)
    intro sz
    refine V.iload_n (pc := 4) hB dX6_rankOf_4 rfl ?_
    refine V.aload_n (pc := 5) hB dX6_rankOf_5 rfl ?_
    refine V.get (pc := 6) hB fk_Land 1 wf_X6_17 dX6_rankOf_6 (by decide) (hp_at (ca_Land (by omega) _)) rfl ?_
    refine V.icmp_ge (pc := 9) (tgt := 35) hB dX6_rankOf_9 (by decide) (fun c_9 => ?_) (fun c_9 => ?_)
    · have hqN : q = nLk m i := nge hL.nl (by omega) hq c_9
      refine V.iload_n (pc := 35) hB dX6_rankOf_35 rfl ?_
      refine V.retI (pc := 36) hB dX6_rankOf_36 rfl (rfl) (by omega) (by omega) ?_
      rw [hqN]
      exact ⟨rfl, rfl⟩
    · have hlt : q < nLk m i := nlt hL.nl (by omega) hq c_9
      refine V.iload_n (pc := 12) hB dX6_rankOf_12 rfl ?_
      refine V.iload_n (pc := 13) hB dX6_rankOf_13 rfl ?_
      refine V.icmp_eq (pc := 14) (tgt := 29) hB dX6_rankOf_14 (by decide) (fun c_14 => ?_) (fun c_14 => ?_)
      · have hrk : ¬ (decide (q ≠ a) && rkB m i q a) = true := fun z => by
          have e : q = a := (nI_eq (by omega) (by omega)).mp c_14
          rw [decide_eq_false (fun w => w e), Bool.false_and] at z
          exact absurd z (by decide)
        refine V.iinc (pc := 29) (v := nI (q + 1)) hB dX6_rankOf_29 rfl (nI_1 _) (by decide) rfl ?_
        refine V.goto (pc := 32) (tgt := 4) hB dX6_rankOf_32 (by decide) ?_
        first
        | (have e : rankN m i a (q + 1) = rankN m i a q := (congrArg (fun z => rankN m i a q + z) (if_neg hrk)).trans (Nat.add_zero _)
           have h0 := ih hlt sz
           rw [e] at h0
           exact h0)
        | (have e : rankN m_20 i a (q + 1) = rankN m_20 i a q := (congrArg (fun z => rankN m_20 i a q + z) (if_neg hrk)).trans (Nat.add_zero _)
           have h0 := ih hlt sz
           rw [e] at h0
           exact h0)
        | exact ih hlt _
      · have hqa : q ≠ a := fun z => c_14 (by rw [z])
        refine V.aload_n (pc := 17) hB dX6_rankOf_17 rfl ?_
        refine V.iload_n (pc := 18) hB dX6_rankOf_18 rfl ?_
        refine V.iload_n (pc := 19) hB dX6_rankOf_19 rfl ?_
        refine V.cv (pc := 20) hB cw_X6_ranksBefore wm_X6_192 wi_X6_ranksBefore ws_X6_ranksBefore dX6_rankOf_20 (c_X6_ranksBefore hG hi hL hlt ha) (hp_at (ca_Land (by omega) _)) fk_Land rfl (by omega) (by decide) rfl (by exact Nat.le_of_ble_eq_true rfl) (by omega) (by omega) kN (kI (fun v_20 m_20 sz h_20 => ?_)) rfl
        obtain ⟨rfl, rfl⟩ := h_20
        refine V.if_eq (pc := 23) (tgt := 29) hB dX6_rankOf_23 (by decide) (fun c_23 => ?_) (fun c_23 => ?_)
        · have hrk : ¬ (decide (q ≠ a) && rkB m_20 i q a) = true := fun z => by
            rw [decide_eq_true hqa, Bool.true_and] at z
            rw [if_pos z] at c_23
            exact absurd c_23 (by decide)
          refine V.iinc (pc := 29) (v := nI (q + 1)) hB dX6_rankOf_29 rfl (nI_1 _) (by decide) rfl ?_
          refine V.goto (pc := 32) (tgt := 4) hB dX6_rankOf_32 (by decide) ?_
          first
          | (have e : rankN m i a (q + 1) = rankN m i a q := (congrArg (fun z => rankN m i a q + z) (if_neg hrk)).trans (Nat.add_zero _)
             have h0 := ih hlt sz
             rw [e] at h0
             exact h0)
          | (have e : rankN m_20 i a (q + 1) = rankN m_20 i a q := (congrArg (fun z => rankN m_20 i a q + z) (if_neg hrk)).trans (Nat.add_zero _)
             have h0 := ih hlt sz
             rw [e] at h0
             exact h0)
          | exact ih hlt _
        · have hrk : (decide (q ≠ a) && rkB m_20 i q a) = true := by
            rw [decide_eq_true hqa, Bool.true_and]
            exact Decidable.byContradiction (fun z => c_23 (if_neg z))
          refine V.iinc (pc := 26) (v := nI (rankN m_20 i a (q + 1))) hB dX6_rankOf_26 rfl (by refine (nI_1 _).trans ?_; congr 1; show _ = rankN m_20 i a q + (if _ then 1 else 0); rw [if_pos hrk]) (by decide) rfl ?_
          refine V.iinc (pc := 29) (v := nI (q + 1)) hB dX6_rankOf_29 rfl (nI_1 _) (by decide) rfl ?_
          refine V.goto (pc := 32) (tgt := 4) hB dX6_rankOf_32 (by decide) ?_
          first
          | (have e : rankN m i a (q + 1) = rankN m i a q := (congrArg (fun z => rankN m i a q + z) (if_neg hrk)).trans (Nat.add_zero _)
             have h0 := ih hlt sz
             rw [e] at h0
             exact h0)
          | (have e : rankN m_20 i a (q + 1) = rankN m_20 i a q := (congrArg (fun z => rankN m_20 i a q + z) (if_neg hrk)).trans (Nat.add_zero _)
             have h0 := ih hlt sz
             rw [e] at h0
             exact h0)
          | exact ih hlt _
  refine V.iconst (pc := 0) (v := 0) hB dX6_rankOf_0 rfl ?_
  refine V.istore_n (pc := 1) hB dX6_rankOf_1 (by decide) rfl ?_
  refine V.iconst (pc := 2) (v := 0) hB dX6_rankOf_2 rfl ?_
  refine V.istore_n (pc := 3) hB dX6_rankOf_3 (by decide) rfl ?_
  exact loop 0 (by omega) sz

set_option maxRecDepth 100000 in
set_option maxHeartbeats 4000000 in
theorem c_X6_lakeRanked {g : xG} (hG : GK g) {i : Nat} (hi : i < 11) {m : Mem} (hL : LW m i) {x : Int32} : CC g yX6_lakeRanked (.code yX6_lakeRanked cX6_lakeRanked 3 (some .int)) 5 0 0 [.ref (ad g (LA i)), .int x] m (rI (fun v m2 => v = firstI (fun q => decide (nI (rankN m i q (nLk m i)) = x)) (nLk m i) ∧ m2 = m)) noX := by
  have h5 := hL.nl5
  refine CC.mk hG RX6 rfl (by decide +kernel) rfl (Nat.le_of_ble_eq_true rfl) (fun sz B hB hX => ?_)
  show V g B 0 0 _ (hp g m) sz 0 [some (.ref (ad g (LA i))), some (.int x), none] []
  have loop : ∀ q : Nat, q ≤ nLk m i → ∀ (sz : Nat), firstI (fun q => decide (nI (rankN m i q (nLk m i)) = x)) q = -1 → V g B 0 0 (QM g B 0 0 (rI (fun v m2 => v = firstI (fun q => decide (nI (rankN m i q (nLk m i)) = x)) (nLk m i) ∧ m2 = m)) noX) (hp g (m)) sz 2 [some (.ref (ad g (LA i))), some (.int x), some (.int (nI q))] [] := by
    refine loop_up (fun q hq ih => ?_)
    intro sz hf
    refine V.iload_n (pc := 2) hB dX6_lakeRanked_2 rfl ?_
    refine V.aload_n (pc := 3) hB dX6_lakeRanked_3 rfl ?_
    refine V.get (pc := 4) hB fk_Land 1 wf_X6_17 dX6_lakeRanked_4 (by decide) (hp_at (ca_Land (by omega) _)) rfl ?_
    refine V.icmp_ge (pc := 7) (tgt := 27) hB dX6_lakeRanked_7 (by decide) (fun c_7 => ?_) (fun c_7 => ?_)
    · have hqN : q = nLk m i := nge hL.nl (by omega) hq c_7
      refine V.iconst (pc := 27) (v := (-1)) hB dX6_lakeRanked_27 rfl ?_
      refine V.retI (pc := 28) hB dX6_lakeRanked_28 rfl (rfl) (by omega) (by omega) ?_
      rw [hqN] at hf
      exact ⟨hf.symm, rfl⟩
    · have hlt : q < nLk m i := nlt hL.nl (by omega) hq c_7
      refine V.aload_n (pc := 10) hB dX6_lakeRanked_10 rfl ?_
      refine V.iload_n (pc := 11) hB dX6_lakeRanked_11 rfl ?_
      refine V.cv (pc := 12) hB cw_X6_rankOf wm_X6_189 wi_X6_rankOf ws_X6_rankOf dX6_lakeRanked_12 (c_X6_rankOf hG hi hL hlt) (hp_at (ca_Land (by omega) _)) fk_Land rfl (by omega) (by decide) rfl (by exact Nat.le_of_ble_eq_true rfl) (by omega) (by omega) kN (kI (fun v_12 m_12 sz h_12 => ?_)) rfl
      obtain ⟨rfl, rfl⟩ := h_12
      refine V.iload_n (pc := 15) hB dX6_lakeRanked_15 rfl ?_
      refine V.icmp_ne (pc := 16) (tgt := 21) hB dX6_lakeRanked_16 (by decide) (fun c_16 => ?_) (fun c_16 => ?_)
      · refine V.iinc (pc := 21) (v := nI (q + 1)) hB dX6_lakeRanked_21 rfl (nI_1 _) (by decide) rfl ?_
        refine V.goto (pc := 24) (tgt := 2) hB dX6_lakeRanked_24 (by decide) ?_
        exact ih hlt _ (firstI_skip hf (fun z => c_16 (of_decide_eq_true z)))
      · refine V.iload_n (pc := 19) hB dX6_lakeRanked_19 rfl ?_
        refine V.retI (pc := 20) hB dX6_lakeRanked_20 rfl (rfl) (by omega) (by omega) ?_
        exact ⟨(firstI_stay (by omega) hf (decide_eq_true c_16) _ hlt).symm, rfl⟩
  refine V.iconst (pc := 0) (v := 0) hB dX6_lakeRanked_0 rfl ?_
  refine V.istore_n (pc := 1) hB dX6_lakeRanked_1 (by decide) rfl ?_
  exact loop 0 (by omega) sz rfl

theorem cpLake_cell {i j i2 j2 : Nat} {m : Mem} {k : Nat} (h : k < LK i j ∨ LK i j + 4 ≤ k) : (cpLake i j i2 j2 m).1 k = m.1 k := by
  unfold cpLake
  dsimp only
  rw [up_cell _ _ _ (by omega), up_cell _ _ _ (by omega), up_cell _ _ _ (by omega), setRow_cell _ _ (by omega), setRow_cell _ _ (by omega), setRow_cell _ _ (by omega)]
def cpLks (i i2 : Nat) (m : Mem) : Nat → Mem | 0 => m | q + 1 => cpLake i q i2 q (cpLks i i2 m q)
theorem cpLks_cell {i i2 : Nat} {m : Mem} {k : Nat} (h : k < LA i + 10 ∨ LA i + 30 ≤ k) : ∀ q, q ≤ 5 → (cpLks i i2 m q).1 k = m.1 k
  | 0, _ => rfl
  | q + 1, hq => (cpLake_cell (by have := LK_in (i := i) (j := q) (by omega); omega)).trans (cpLks_cell h q (by omega))
def cpLand (i i2 : Nat) (m0 : Mem) : Mem :=
  let m1 := cpLks i i2 m0 (nLk m0 i2)
  let m2 := up m1 (LA i) 1 (m1.1 (LA i2) 1)
  let m3 := up m2 (LA i) 2 (m2.1 (LA i2) 2)
  let m4 := up m3 (LA i) 3 (m3.1 (LA i2) 3)
  let m5 := up m4 (LA i) 4 (m4.1 (LA i2) 4)
  let m6 := up m5 (LA i) 5 (m5.1 (LA i2) 5)
  cpPeal i i2 (cpWin i i2 m6)
theorem cpWin_cell {i i2 : Nat} {m : Mem} {k : Nat} (h : k < LA i + 2 ∨ LA i + 5 ≤ k) : (cpWin i i2 m).1 k = m.1 k := by
  unfold cpWin
  dsimp only
  rw [up_cell _ _ _ (by omega), setRow_cell _ _ (by omega), setRow_cell _ _ (by omega)]
theorem cpPeal_cell {i i2 : Nat} {m : Mem} {k : Nat} (h : k < LA i + 5 ∨ LA i + 10 ≤ k) : (cpPeal i i2 m).1 k = m.1 k := by
  unfold cpPeal
  dsimp only
  rw [up_cell _ _ _ (by omega), up_cell _ _ _ (by omega), setRow_cell _ _ (by omega), setRow_cell _ _ (by omega), setRow_cell _ _ (by omega), setRow_cell _ _ (by omega)]

set_option maxRecDepth 100000 in
set_option maxHeartbeats 4000000 in
theorem c_X6_copyFrom {g : xG} (hG : GK g) {i i2 : Nat} (hi : i < 11) (hi2 : i2 < 11) (hne : i ≠ i2) {m : Mem} (hL : LW m i2) : CC g yX6_copyFrom (.code yX6_copyFrom cX6_copyFrom 3 none) 2 0 0 [.ref (ad g (LA i)), .ref (ad g (LA i2))] m (rV (fun m2 => m2 = cpLand i i2 m)) noX := by
  have h5 := hL.nl5
  have hap := LA_apart hne
  refine CC.mk hG RX6 rfl (by decide +kernel) rfl (Nat.le_of_ble_eq_true rfl) (fun sz B hB hX => ?_)
  show V g B 0 0 _ (hp g m) sz 0 [some (.ref (ad g (LA i))), some (.ref (ad g (LA i2))), none] []
  have loop : ∀ q : Nat, q ≤ nLk m i2 → ∀ (sz : Nat), V g B 0 0 (QM g B 0 0 (rV (fun m2 => m2 = cpLand i i2 m)) noX) (hp g (cpLks i i2 m q)) sz 2 [some (.ref (ad g (LA i))), some (.ref (ad g (LA i2))), some (.int (nI q))] [] := by
    refine loop_up (fun q hq ih => ?_)
    intro sz
    have hc : (cpLks i i2 m q).1 (LA i2) 1 = nI (nLk m i2) := by rw [cpLks_cell (by omega) q (by omega)]; exact hL.nl
    refine V.iload_n (pc := 2) hB dX6_copyFrom_2 rfl ?_
    refine V.aload_n (pc := 3) hB dX6_copyFrom_3 rfl ?_
    refine V.get (pc := 4) hB fk_Land 1 wf_X6_17 dX6_copyFrom_4 (by decide) (hp_at (ca_Land (by omega) _)) rfl ?_
    refine V.icmp_ge (pc := 7) (tgt := 31) hB dX6_copyFrom_7 (by decide) (fun c_7 => ?_) (fun c_7 => ?_)
    · have hqN : q = nLk m i2 := nge hc (by omega) hq c_7
      refine V.aload_n (pc := 31) hB dX6_copyFrom_31 rfl ?_
      refine V.aload_n (pc := 32) hB dX6_copyFrom_32 rfl ?_
      refine V.get (pc := 33) hB fk_Land 1 wf_X6_17 dX6_copyFrom_33 (by decide) (hp_at (ca_Land (by omega) _)) rfl ?_
      refine V.p_Land_lakeCount (pc := 36) hB wf_X6_17 dX6_copyFrom_36 (by omega) ?_
      refine V.aload_n (pc := 39) hB dX6_copyFrom_39 rfl ?_
      refine V.aload_n (pc := 40) hB dX6_copyFrom_40 rfl ?_
      refine V.get (pc := 41) hB fk_Land 2 wf_X6_21 dX6_copyFrom_41 (by decide) (hp_at (ca_Land (by omega) _)) rfl ?_
      refine V.p_Land_air (pc := 44) hB wf_X6_21 dX6_copyFrom_44 (by omega) ?_
      refine V.aload_n (pc := 47) hB dX6_copyFrom_47 rfl ?_
      refine V.aload_n (pc := 48) hB dX6_copyFrom_48 rfl ?_
      refine V.get (pc := 49) hB fk_Land 3 wf_X6_24 dX6_copyFrom_49 (by decide) (hp_at (ca_Land (by omega) _)) rfl ?_
      refine V.p_Land_hour (pc := 52) hB wf_X6_24 dX6_copyFrom_52 (by omega) ?_
      refine V.aload_n (pc := 55) hB dX6_copyFrom_55 rfl ?_
      refine V.aload_n (pc := 56) hB dX6_copyFrom_56 rfl ?_
      refine V.get (pc := 57) hB fk_Land 4 wf_X6_27 dX6_copyFrom_57 (by decide) (hp_at (ca_Land (by omega) _)) rfl ?_
      refine V.p_Land_frozen (pc := 60) hB wf_X6_27 dX6_copyFrom_60 (by omega) ?_
      refine V.aload_n (pc := 63) hB dX6_copyFrom_63 rfl ?_
      refine V.aload_n (pc := 64) hB dX6_copyFrom_64 rfl ?_
      refine V.get (pc := 65) hB fk_Land 5 wf_X6_30 dX6_copyFrom_65 (by decide) (hp_at (ca_Land (by omega) _)) rfl ?_
      refine V.p_Land_thawed (pc := 68) hB wf_X6_30 dX6_copyFrom_68 (by omega) ?_
      refine V.aload_n (pc := 71) hB dX6_copyFrom_71 rfl ?_
      refine V.get (pc := 72) hB fk_Land 6 wf_X6_36 dX6_copyFrom_72 (by decide) (hp_at (ca_Land (by omega) _)) rfl ?_
      refine V.aload_n (pc := 75) hB dX6_copyFrom_75 rfl ?_
      refine V.get (pc := 76) hB fk_Land 6 wf_X6_36 dX6_copyFrom_76 (by decide) (hp_at (ca_Land (by omega) _)) rfl ?_
      refine V.cv (pc := 79) hB cw_X8_copyFrom wm_X6_52 wi_X8_copyFrom ws_X8_copyFrom dX6_copyFrom_79 (c_X8_copyFrom hG hi hi2) (hp_at (ca_Win (by omega) _)) fk_Win rfl (by omega) (by decide) rfl (by exact Nat.le_of_ble_eq_true rfl) (by omega) (by omega) kN (kV (fun m_79 sz h_79 => ?_)) rfl
      subst h_79
      refine V.aload_n (pc := 82) hB dX6_copyFrom_82 rfl ?_
      refine V.get (pc := 83) hB fk_Land 7 wf_X6_43 dX6_copyFrom_83 (by decide) (hp_at (ca_Land (by omega) _)) rfl ?_
      refine V.aload_n (pc := 86) hB dX6_copyFrom_86 rfl ?_
      refine V.get (pc := 87) hB fk_Land 7 wf_X6_43 dX6_copyFrom_87 (by decide) (hp_at (ca_Land (by omega) _)) rfl ?_
      refine V.cv (pc := 90) hB cw_X7_copyFrom wm_X6_55 wi_X7_copyFrom ws_X7_copyFrom dX6_copyFrom_90 (c_X7_copyFrom hG hi hi2 (fun y hy => by rw [cpWin_cell (by omega), up_cell _ _ _ (by omega), up_cell _ _ _ (by omega), up_cell _ _ _ (by omega), up_cell _ _ _ (by omega), up_cell _ _ _ (by omega), cpLks_cell (by omega) q (by omega)]; exact hL.kf y hy)) (hp_at (ca_Peal (by omega) _)) fk_Peal rfl (by omega) (by decide) rfl (by exact Nat.le_of_ble_eq_true rfl) (by omega) (by omega) kN (kV (fun m_90 sz h_90 => ?_)) rfl
      subst h_90
      refine V.retV (pc := 93) hB dX6_copyFrom_93 rfl (by omega) (by omega) ?_
      rw [hqN]
      rfl
    · have hlt : q < nLk m i2 := nlt hc (by omega) hq c_7
      refine V.aload_n (pc := 10) hB dX6_copyFrom_10 rfl ?_
      refine V.get (pc := 11) hB fk_Land 0 wf_X6_11 dX6_copyFrom_11 (by decide) (hp_at (ca_Land (by omega) _)) rfl ?_
      refine V.iload_n (pc := 14) hB dX6_copyFrom_14 rfl ?_
      refine V.aaldLk (pc := 15) hB (by omega) dX6_copyFrom_15 (ix_nI (by omega) (by decide)) ?_
      refine V.aload_n (pc := 16) hB dX6_copyFrom_16 rfl ?_
      refine V.get (pc := 17) hB fk_Land 0 wf_X6_11 dX6_copyFrom_17 (by decide) (hp_at (ca_Land (by omega) _)) rfl ?_
      refine V.iload_n (pc := 20) hB dX6_copyFrom_20 rfl ?_
      refine V.aaldLk (pc := 21) hB (by omega) dX6_copyFrom_21 (ix_nI (by omega) (by decide)) ?_
      refine V.cv (pc := 22) hB cw_X5_copyFrom wm_X6_48 wi_X5_copyFrom ws_X5_copyFrom dX6_copyFrom_22 (c_X5_copyFrom hG hi (by omega) hi2 (by omega)) (hp_at (ca_Lake (by omega) (by omega) _)) fk_Lake rfl (by omega) (by decide) rfl (by exact Nat.le_of_ble_eq_true rfl) (by omega) (by omega) kN (kV (fun m_22 sz h_22 => ?_)) rfl
      subst h_22
      refine V.iinc (pc := 25) (v := nI (q + 1)) hB dX6_copyFrom_25 rfl (nI_1 _) (by decide) rfl ?_
      refine V.goto (pc := 28) (tgt := 2) hB dX6_copyFrom_28 (by decide) ?_
      exact ih hlt sz
  refine V.iconst (pc := 0) (v := 0) hB dX6_copyFrom_0 rfl ?_
  refine V.istore_n (pc := 1) hB dX6_copyFrom_1 (by decide) rfl ?_
  exact loop 0 (by omega) sz
