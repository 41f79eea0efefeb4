/-! the reference's number -/
theorem dgs_fin {T : Nat → Int32} {N : Nat} : ∀ q k p, (∀ y, y < q → isDg T N (p + y) = true) → q ≤ k → (q = k ∨ isDg T N (p + q) = false) → dgs T N k p = q
  | 0, 0, p, _, _, _ => rfl
  | 0, k + 1, p, _, _, h => by
    rcases h with h | h
    · exact absurd h (by omega)
    · show (if isDg T N p = true then dgs T N k (p + 1) + 1 else 0) = 0
      rw [if_neg]
      intro z
      rw [Nat.add_zero, z] at h
      exact absurd h (by decide)
  | q + 1, 0, p, _, hk, _ => absurd hk (by omega)
  | q + 1, k + 1, p, ha, hk, h => by
    show (if isDg T N p = true then dgs T N k (p + 1) + 1 else 0) = q + 1
    rw [if_pos (show isDg T N p = true from ha 0 (by omega)), dgs_fin q k (p + 1) (fun y hy => by rw [show p + 1 + y = p + (y + 1) by omega]; exact ha (y + 1) (by omega)) (by omega) (h.imp (fun e => by omega) (fun e => by rw [show p + 1 + q = p + (q + 1) by omega]; exact e))]
def nbV (T : Nat → Int32) (N p : Nat) (w : Int32) : Int32 := if w = -1 then nmV T p (dgs T N 3 p) else 0
def nbP (T : Nat → Int32) (N p : Nat) (w : Int32) : Nat := if w = -1 then p + dgs T N 3 p else p
def nbW (T : Nat → Int32) (N p : Nat) (w : Int32) : Int32 := if w = -1 then (if 0 < dgs T N 3 p then -1 else nI p) else w
theorem isDg_in {T : Nat → Int32} {N p : Nat} : (decide ((48 : Int32) ≤ if p < N then T p else -1) && decide ((if p < N then T p else -1) ≤ 57)) = isDg T N p := by
  unfold isDg
  by_cases h : p < N
  · rw [if_pos h, decide_eq_true h, Bool.true_and]
  · rw [if_neg h, decide_eq_false h, Bool.false_and, show decide ((48 : Int32) ≤ -1) = false by decide, Bool.false_and]

set_option maxRecDepth 100000 in
set_option maxHeartbeats 1000000 in
theorem c_X10_number {g : xG} (hG : GK g) {m : Mem} {N p : Nat} {w : Int32} (h16 : m.1 363 16 = nI N) (hN : N ≤ 60) (hp60 : p ≤ 60) : CC g yX10_number (.code yX10_number cX10_number 3 (some .int)) 5 0 0 [.ref (ad g 363)] (rdM m p w) (rI (fun v m2 => v = nbV (m.1 370) N p w ∧ m2 = rdM m (nbP (m.1 370) N p w) (nbW (m.1 370) N p w))) noX := by
  refine CC.mk hG RX10 rfl (by decide +kernel) rfl (Nat.le_of_ble_eq_true rfl) (fun sz B hB hX => ?_)
  show V g B 0 0 _ (hp g (rdM m p w)) sz 0 [some (.ref (ad g 363)), none, none] []
  have fail : ∀ w2 : Int32, ¬ w2 = -1 → nbV (m.1 370) N p w = 0 → (p = nbP (m.1 370) N p w ∧ w2 = nbW (m.1 370) N p w) → ∀ (sz : Nat), V g B 0 0 (QM g B 0 0 (rI (fun v m2 => v = nbV (m.1 370) N p w ∧ m2 = rdM m (nbP (m.1 370) N p w) (nbW (m.1 370) N p w))) noX) (hp g (rdM m p w2)) sz 7 [some (.ref (ad g 363)), some (.int 0), some (.int (nI 1))] [] := by
    intro w2 hw2 hv hpw sz
    refine V.iload_n (pc := 7) hB dX10_number_7 rfl ?_
    refine V.iconst (pc := 8) (v := 3) hB dX10_number_8 rfl ?_
    refine V.icmp_ge (pc := 9) (tgt := 50) hB dX10_number_9 (by decide) (fun c_9 => ?_) (fun c_9 => ?_)
    · refine V.iload_n (pc := 50) hB dX10_number_50 rfl ?_
      refine V.retI (pc := 51) hB dX10_number_51 rfl (rfl) (by omega) (by omega) ?_
      exact ⟨hv.symm, by rw [← hpw.1, ← hpw.2]⟩
    · refine V.aload_n (pc := 12) hB dX10_number_12 rfl ?_
      refine V.get (pc := 13) hB fk_Model 18 wf_X10_197 dX10_number_13 (by decide) (hp_at (ca_Model _)) rfl ?_
      rw [rdM_18]
      refine V.iconst (pc := 16) (v := (-1)) hB dX10_number_16 rfl ?_
      refine V.icmp_ne (pc := 17) (tgt := 50) hB dX10_number_17 (by decide) (fun c_17 => ?_) (fun c_17 => ?_)
      · refine V.iload_n (pc := 50) hB dX10_number_50 rfl ?_
        refine V.retI (pc := 51) hB dX10_number_51 rfl (rfl) (by omega) (by omega) ?_
        exact ⟨hv.symm, by rw [← hpw.1, ← hpw.2]⟩
      · exact absurd c_17 hw2
  have loop : w = -1 → ∀ q : Nat, q ≤ 3 → ∀ (sz : Nat), (∀ y, y < q → isDg (m.1 370) N (p + y) = true) → 1 ≤ q → p + q ≤ 60 → V g B 0 0 (QM g B 0 0 (rI (fun v m2 => v = nbV (m.1 370) N p w ∧ m2 = rdM m (nbP (m.1 370) N p w) (nbW (m.1 370) N p w))) noX) (hp g (rdM m (p + q) (-1))) sz 7 [some (.ref (ad g 363)), some (.int (nmV (m.1 370) p q)), some (.int (nI q))] [] := by
    intro hw1
    refine loop_up (fun q hq ih => ?_)
    intro sz hdg hq1 hpq
    refine V.iload_n (pc := 7) hB dX10_number_7 rfl ?_
    refine V.iconst (pc := 8) (v := 3) hB dX10_number_8 rfl ?_
    refine V.icmp_ge (pc := 9) (tgt := 50) hB dX10_number_9 (by decide) (fun c_9 => ?_) (fun c_9 => ?_)
    · have hq3 : q = 3 := by have := (nI_leI (a := 3) (by decide) (by omega)).mp c_9; omega
      have hd : dgs (m.1 370) N 3 p = q := dgs_fin q 3 p hdg (by omega) (Or.inl hq3)
      refine V.iload_n (pc := 50) hB dX10_number_50 rfl ?_
      refine V.retI (pc := 51) hB dX10_number_51 rfl (rfl) (by omega) (by omega) ?_
      refine ⟨?_, ?_⟩
      · unfold nbV
        rw [if_pos hw1, hd]
      · unfold nbP nbW
        rw [if_pos hw1, if_pos hw1, hd, if_pos (show 0 < q by omega)]
    · have hlt : q < 3 := Nat.not_le.mp (fun z => c_9 ((nI_leI (a := 3) (by decide) (by omega)).mpr z))
      refine V.aload_n (pc := 12) hB dX10_number_12 rfl ?_
      refine V.get (pc := 13) hB fk_Model 18 wf_X10_197 dX10_number_13 (by decide) (hp_at (ca_Model _)) rfl ?_
      rw [rdM_18]
      refine V.iconst (pc := 16) (v := (-1)) hB dX10_number_16 rfl ?_
      refine V.icmp_ne (pc := 17) (tgt := 50) hB dX10_number_17 (by decide) (fun c_17 => ?_) (fun c_17 => ?_)
      · exact absurd rfl c_17
      · refine V.aload_n (pc := 20) hB dX10_number_20 rfl ?_
        refine V.cv (pc := 21) hB cw_X10_letterHere wm_X10_200 wi_X10_letterHere ws_X10_letterHere dX10_number_21 (c_X10_letterHere hG (rdM_RS h16 hN hpq)) (hp_at (ca_Model _)) fk_Model rfl (by omega) (by decide) rfl (by exact Nat.le_of_ble_eq_true rfl) (by omega) (by omega) kN (kI (fun v_21 m_21 sz h_21 => ?_)) rfl
        obtain ⟨rfl, hm_21⟩ := h_21
        obtain rfl := hm_21.symm
        rw [rdM_k m (p + q) (-1) (show 370 ≠ 363 by decide)]
        refine V.bipush (pc := 24) (v := 48) hB dX10_number_24 rfl ?_
        refine V.bipush (pc := 26) (v := 57) hB dX10_number_26 rfl ?_
        refine V.cs (pc := 28) hB cw_X10_isIn wm_X10_69 wst_X10_isIn dX10_number_28 (c_X10_isIn hG) (by omega) (by decide) rfl (by exact Nat.le_of_ble_eq_true rfl) (by omega) (by omega) kN (kI (fun v_28 m_28 sz h_28 => ?_)) rfl
        obtain ⟨rfl, hm_28⟩ := h_28
        obtain rfl := hm_28.symm
        rw [isDg_in]
        refine V.if_eq (pc := 31) (tgt := 50) hB dX10_number_31 (by decide) (fun c_31 => ?_) (fun c_31 => ?_)
        · have hno : isDg (m.1 370) N (p + q) = false := by
            cases hb : isDg (m.1 370) N (p + q)
            · rfl
            · rw [hb] at c_31; exact absurd c_31 (by decide)
          have hd : dgs (m.1 370) N 3 p = q := dgs_fin q 3 p hdg (by omega) (Or.inr hno)
          refine V.iload_n (pc := 50) hB dX10_number_50 rfl ?_
          refine V.retI (pc := 51) hB dX10_number_51 rfl (rfl) (by omega) (by omega) ?_
          refine ⟨?_, ?_⟩
          · unfold nbV
            rw [if_pos hw1, hd]
          · unfold nbP nbW
            rw [if_pos hw1, if_pos hw1, hd, if_pos (show 0 < q by omega)]
        · have hyes : isDg (m.1 370) N (p + q) = true := by
            cases hb : isDg (m.1 370) N (p + q)
            · rw [hb] at c_31; exact absurd rfl c_31
            · rfl
          have hltN := isDg_lt hyes
          refine V.bipush (pc := 34) (v := 10) hB dX10_number_34 rfl ?_
          refine V.iload_n (pc := 36) hB dX10_number_36 rfl ?_
          refine V.imul (pc := 37) hB dX10_number_37 ?_
          refine V.aload_n (pc := 38) hB dX10_number_38 rfl ?_
          refine V.cv (pc := 39) hB cw_X10_digit wm_X10_206 wi_X10_digit ws_X10_digit dX10_number_39 (c_X10_digit hG h16 hN hpq) (hp_at (ca_Model _)) fk_Model rfl (by omega) (by decide) rfl (by exact Nat.le_of_ble_eq_true rfl) (by omega) (by omega) kN (kI (fun v_39 m_39 sz h_39 => ?_)) rfl
          obtain ⟨rfl, hm_39⟩ := h_39
          subst hm_39
          rw [show rdV (m.1 370) N (p + q) 48 57 (-1) = m.1 370 (p + q) - 48 from if_pos ⟨rfl, hyes⟩, show rdP (m.1 370) N (p + q) 48 57 (-1) = p + (q + 1) from if_pos ⟨rfl, hyes⟩, show rdW (m.1 370) N (p + q) 48 57 (-1) = -1 from (if_pos rfl).trans (if_pos hyes)]
          refine V.iadd (pc := 42) hB dX10_number_42 ?_
          rw [show (10 : Int32) * nmV (m.1 370) p q + (m.1 370 (p + q) - 48) = nmV (m.1 370) p (q + 1) by rw [Int32.mul_comm]; rfl]
          refine V.istore_n (pc := 43) hB dX10_number_43 (by decide) rfl ?_
          refine V.iinc (pc := 44) (v := nI (q + 1)) hB dX10_number_44 rfl (nI_1 _) (by decide) rfl ?_
          refine V.goto (pc := 47) (tgt := 7) hB dX10_number_47 (by decide) ?_
          exact ih hlt sz (fun y hy => by
            by_cases e : y = q
            · rw [e]; exact hyes
            · exact hdg y (by omega)) (by omega) (by omega)
  refine V.aload_n (pc := 0) hB dX10_number_0 rfl ?_
  refine V.cv (pc := 1) hB cw_X10_digit wm_X10_206 wi_X10_digit ws_X10_digit dX10_number_1 (c_X10_digit hG h16 hN hp60) (hp_at (ca_Model _)) fk_Model rfl (by omega) (by decide) rfl (by exact Nat.le_of_ble_eq_true rfl) (by omega) (by omega) kN (kI (fun v_1 m_1 sz h_1 => ?_)) rfl
  obtain ⟨rfl, hm_1⟩ := h_1
  subst hm_1
  have nx : ∀ sz : Nat, V g B 0 0 (QM g B 0 0 (rI (fun v m2 => v = nbV (m.1 370) N p w ∧ m2 = rdM m (nbP (m.1 370) N p w) (nbW (m.1 370) N p w))) noX) (hp g (rdM m (rdP (m.1 370) N p 48 57 w) (rdW (m.1 370) N p 48 57 w))) sz 7 [some (.ref (ad g 363)), some (.int (rdV (m.1 370) N p 48 57 w)), some (.int (nI 1))] [] := by
    intro sz
    by_cases hb : w = -1 ∧ isDg (m.1 370) N p = true
    · have g := loop hb.1 1 (by omega) sz (fun y hy => by rw [show p + y = p by omega]; exact hb.2) (by omega) (by have := isDg_lt hb.2; omega)
      rw [show nmV (m.1 370) p 1 = rdV (m.1 370) N p 48 57 w by rw [show rdV (m.1 370) N p 48 57 w = m.1 370 p - 48 from if_pos hb]; show (0 : Int32) * 10 + (m.1 370 (p + 0) - 48) = _; rw [Int32.zero_mul, Int32.zero_add, Nat.add_zero], show p + 1 = rdP (m.1 370) N p 48 57 w from (if_pos hb).symm] at g
      have e2 : rdW (m.1 370) N p 48 57 w = -1 := (if_pos hb.1).trans (if_pos hb.2)
      rw [e2]
      exact g
    · rw [show rdV (m.1 370) N p 48 57 w = 0 from if_neg hb, show rdP (m.1 370) N p 48 57 w = p from if_neg hb]
      have e0 : w = -1 → dgs (m.1 370) N 3 p = 0 := fun e => dgs_fin 0 3 p (fun y hy => absurd hy (by omega)) (by omega) (Or.inr (by
        cases hx : isDg (m.1 370) N (p + 0)
        · rfl
        · exact absurd ⟨e, hx⟩ hb))
      refine fail (rdW (m.1 370) N p 48 57 w) ?_ ?_ ⟨?_, ?_⟩ sz
      · unfold rdW
        by_cases e : w = -1
        · rw [if_pos e, if_neg (show ¬ rdB (m.1 370) N p 48 57 = true from fun z => hb ⟨e, z⟩)]
          intro z
          have h0 : (0 : Int32) ≤ nI p := nI_pos' (by omega)
          rw [z] at h0
          exact absurd h0 (by decide)
        · rw [if_neg e]; exact e
      · unfold nbV
        by_cases e : w = -1
        · rw [if_pos e, e0 e]; rfl
        · rw [if_neg e]
      · unfold nbP
        by_cases e : w = -1
        · rw [if_pos e, e0 e]; rfl
        · rw [if_neg e]
      · unfold nbW rdW
        by_cases e : w = -1
        · rw [if_pos e, if_pos e, e0 e, if_neg (show ¬ rdB (m.1 370) N p 48 57 = true from fun z => hb ⟨e, z⟩), if_neg (show ¬ 0 < 0 by omega)]
        · rw [if_neg e, if_neg e]
  refine V.istore_n (pc := 4) hB dX10_number_4 (by decide) rfl ?_
  refine V.iconst (pc := 5) (v := 1) hB dX10_number_5 rfl ?_
  refine V.istore_n (pc := 6) hB dX10_number_6 (by decide) rfl ?_
  exact nx sz
