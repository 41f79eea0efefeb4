/-! the reference's reading state -/
def rdM (m : Mem) (p : Nat) (w : Int32) : Mem := up (up m 363 17 (nI p)) 363 18 w
theorem rdM_17 (m : Mem) (p : Nat) (w : Int32) : (rdM m p w).1 363 17 = nI p := by unfold rdM; rw [up_slot _ _ _ (by decide), up_same]
theorem rdM_18 (m : Mem) (p : Nat) (w : Int32) : (rdM m p w).1 363 18 = w := by unfold rdM; rw [up_same]
theorem rdM_o (m : Mem) (p : Nat) (w : Int32) {f : Nat} (h : f ≠ 17) (h2 : f ≠ 18) : (rdM m p w).1 363 f = m.1 363 f := by unfold rdM; rw [up_slot _ _ _ h2, up_slot _ _ _ h]
theorem rdM_k (m : Mem) (p : Nat) (w : Int32) {k : Nat} (h : k ≠ 363) : (rdM m p w).1 k = m.1 k := by unfold rdM; rw [up_cell _ _ _ h, up_cell _ _ _ h]
theorem up_up2 (m : Mem) (k f : Nat) (u v : Int32) : up (up m k f u) k f v = up m k f v := by
  refine Prod.ext ?_ rfl
  funext q y
  show (if q = k ∧ y = f then v else (if q = k ∧ y = f then u else m.1 q y)) = if q = k ∧ y = f then v else m.1 q y
  by_cases h : q = k ∧ y = f
  · rw [if_pos h, if_pos h]
  · rw [if_neg h, if_neg h, if_neg h]
theorem up_swap (m : Mem) (k : Nat) {f f2 : Nat} (u v : Int32) (hf : f ≠ f2) : up (up m k f u) k f2 v = up (up m k f2 v) k f u := by
  refine Prod.ext ?_ rfl
  funext q y
  show (if q = k ∧ y = f2 then v else (if q = k ∧ y = f then u else m.1 q y)) = if q = k ∧ y = f then u else (if q = k ∧ y = f2 then v else m.1 q y)
  by_cases h : q = k ∧ y = f2
  · rw [if_pos h, if_neg (fun z => hf (z.2.symm.trans h.2)), if_pos h]
  · rw [if_neg h, if_neg h]
theorem rdM_p (m : Mem) (p p2 : Nat) (w : Int32) : up (rdM m p w) 363 17 (nI p2) = rdM m p2 w := by
  unfold rdM
  rw [up_swap _ _ _ _ (show 18 ≠ 17 by decide), up_up2]
theorem rdM_w (m : Mem) (p : Nat) (w w2 : Int32) : up (rdM m p w) 363 18 w2 = rdM m p w2 := by
  unfold rdM
  rw [up_up2]
theorem rdM_RS {m : Mem} {N p : Nat} {w : Int32} (h : m.1 363 16 = nI N) (hN : N ≤ 60) (hp : p ≤ 60) : RS (rdM m p w) N p := ⟨(rdM_o m p w (by decide) (by decide)).trans h, hN, rdM_17 m p w, hp⟩
def rdV (T : Nat → Int32) (N p : Nat) (lo hi w : Int32) : Int32 := if w = -1 ∧ rdB T N p lo hi = true then T p - lo else 0
def rdP (T : Nat → Int32) (N p : Nat) (lo hi w : Int32) : Nat := if w = -1 ∧ rdB T N p lo hi = true then p + 1 else p
def rdW (T : Nat → Int32) (N p : Nat) (lo hi w : Int32) : Int32 := if w = -1 then (if rdB T N p lo hi = true then -1 else nI p) else w
theorem rd_post {m m2 : Mem} {N p : Nat} {lo hi w v : Int32} (h : ((rdM m p w).1 363 18 = -1 ∧ rdB ((rdM m p w).1 370) N p lo hi = true ∧ v = (rdM m p w).1 370 p - lo ∧ m2 = up (rdM m p w) 363 17 (nI (p + 1))) ∨ (¬ ((rdM m p w).1 363 18 = -1 ∧ rdB ((rdM m p w).1 370) N p lo hi = true) ∧ v = 0 ∧ m2 = up (rdM m p w) 363 18 (if (rdM m p w).1 363 18 = -1 then nI p else (rdM m p w).1 363 18))) : v = rdV (m.1 370) N p lo hi w ∧ m2 = rdM m (rdP (m.1 370) N p lo hi w) (rdW (m.1 370) N p lo hi w) := by
  rw [rdM_18, rdM_k m p w (show 370 ≠ 363 by decide), rdM_p, rdM_w] at h
  unfold rdV rdP rdW
  rcases h with ⟨h1, h2, h3, h4⟩ | ⟨h1, h2, h3⟩
  · rw [if_pos ⟨h1, h2⟩, if_pos ⟨h1, h2⟩, if_pos h1, if_pos h2]
    rw [h1] at h4
    exact ⟨h3, h4⟩
  · rw [if_neg h1, if_neg h1]
    refine ⟨h2, ?_⟩
    rw [h3]
    by_cases e : w = -1
    · rw [if_pos e, if_pos e, if_neg (fun z => h1 ⟨e, z⟩)]
    · rw [if_neg e, if_neg e]

set_option maxRecDepth 100000 in
set_option maxHeartbeats 1000000 in
theorem c_X10_digit {g : xG} (hG : GK g) {m : Mem} {N p : Nat} {w : Int32} (h16 : m.1 363 16 = nI N) (hN : N ≤ 60) (hp60 : p ≤ 60) : CC g yX10_digit (.code yX10_digit cX10_digit 1 (some .int)) 4 0 0 [.ref (ad g 363)] (rdM m p w) (rI (fun v m2 => v = rdV (m.1 370) N p 48 57 w ∧ m2 = rdM m (rdP (m.1 370) N p 48 57 w) (rdW (m.1 370) N p 48 57 w))) noX := by
  refine CC.mk hG RX10 rfl (by decide +kernel) rfl (Nat.le_of_ble_eq_true rfl) (fun sz B hB hX => ?_)
  show V g B 0 0 _ (hp g (rdM m p w)) sz 0 [some (.ref (ad g 363))] []
  refine V.aload_n (pc := 0) hB dX10_digit_0 rfl ?_
  refine V.bipush (pc := 1) (v := 48) hB dX10_digit_1 rfl ?_
  refine V.bipush (pc := 3) (v := 57) hB dX10_digit_3 rfl ?_
  refine V.cv (pc := 5) hB cw_X10_reads wm_X10_203 wi_X10_reads ws_X10_reads dX10_digit_5 (c_X10_reads hG (rdM_RS h16 hN hp60) (by decide)) (hp_at (ca_Model _)) fk_Model rfl (by omega) (by decide) rfl (by exact Nat.le_of_ble_eq_true rfl) (by omega) (by omega) kN (kI (fun v_5 m_5 sz h_5 => ?_)) rfl
  refine V.retI (pc := 8) hB dX10_digit_8 rfl (rfl) (by omega) (by omega) ?_
  exact rd_post h_5

set_option maxRecDepth 100000 in
set_option maxHeartbeats 1000000 in
theorem c_X10_sign {g : xG} (hG : GK g) {m : Mem} {N p : Nat} {w : Int32} (h16 : m.1 363 16 = nI N) (hN : N ≤ 60) (hp60 : p ≤ 60) {c : Int32} (hc : 0 ≤ c) : CC g yX10_sign (.code yX10_sign cX10_sign 3 none) 4 0 0 [.ref (ad g 363), .int c] (rdM m p w) (rV (fun m2 => m2 = rdM m (rdP (m.1 370) N p c c w) (rdW (m.1 370) N p c c w))) noX := by
  refine CC.mk hG RX10 rfl (by decide +kernel) rfl (Nat.le_of_ble_eq_true rfl) (fun sz B hB hX => ?_)
  show V g B 0 0 _ (hp g (rdM m p w)) sz 0 [some (.ref (ad g 363)), some (.int c), none] []
  refine V.aload_n (pc := 0) hB dX10_sign_0 rfl ?_
  refine V.iload_n (pc := 1) hB dX10_sign_1 rfl ?_
  refine V.iload_n (pc := 2) hB dX10_sign_2 rfl ?_
  refine V.cv (pc := 3) hB cw_X10_reads wm_X10_203 wi_X10_reads ws_X10_reads dX10_sign_3 (c_X10_reads hG (rdM_RS h16 hN hp60) hc) (hp_at (ca_Model _)) fk_Model rfl (by omega) (by decide) rfl (by exact Nat.le_of_ble_eq_true rfl) (by omega) (by omega) kN (kI (fun v_3 m_3 sz h_3 => ?_)) rfl
  refine V.istore_n (pc := 6) hB dX10_sign_6 (by decide) rfl ?_
  refine V.retV (pc := 7) hB dX10_sign_7 rfl (by omega) (by omega) ?_
  exact (rd_post h_3).2
