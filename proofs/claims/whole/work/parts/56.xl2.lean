/-! what a landscape's values keep through hours -/
theorem ckM_pit {num hr : Int32} {i j N : Nat} {m : Mem} (hv : VB (m.1 (LK i j + 1)) (m.1 (LK i j + 2)) N) (h : ∀ y, y < 16 → 0 ≤ m.1 (LA i + 8) y ∧ m.1 (LA i + 8) y ≤ 140) : ∀ q, q ≤ N → ∀ y, y < 16 → 0 ≤ (ckM num hr i j N m q).1 (LA i + 8) y ∧ (ckM num hr i j N m q).1 (LA i + 8) y ≤ 140
  | 0, _ => h
  | q + 1, hq => by
    have hg := LK_ge i j
    intro y hy
    show 0 ≤ (ckStep num hr i j N q (ckM num hr i j N m q)).1 (LA i + 8) y ∧ (ckStep num hr i j N q (ckM num hr i j N m q)).1 (LA i + 8) y ≤ 140
    unfold ckStep
    split
    · rw [pushM_cell (by omega), pushM_cell (by omega), up_cell _ _ _ (by omega)]
      refine rec_pit ?_ (ckM_pit hv h q (by omega)) y hy
      unfold ckPitch
      rw [(ckM_facts q).1, (ckM_facts q).2.1]
      split
      · exact ⟨by decide, by decide⟩
      · exact pitch_ok hv (by omega)
    · exact ckM_pit hv h q (by omega) y hy
theorem thawM_slot {i j N : Nat} {air : Int32} {m : Mem} {f : Nat} (h : f ≠ 3) : (thawM i j N air m).1 (LK i j) f = m.1 (LK i j) f := by
  unfold thawM
  split
  · rfl
  · split
    · rw [dropM_eq, set3_o _ _ _ _ _ (by omega), up_slot _ _ _ h, up_cell _ _ _ (by omega)]
    · rw [up_cell _ _ _ (by omega)]
theorem thaw_ice {m : Mem} {i j N : Nat} {air : Int32} (hv : VB (m.1 (LK i j + 1)) (m.1 (LK i j + 2)) N) (hN : LN m i j N) : iceV (thawM i j N air m) i j = l_sum (m.1 (LK i j + 1)) N + -(thawV i j N air m) := by
  have hNy : nLy m i j = N := by unfold nLy; rw [hN.1, nI_clamp (by have := hN.2; omega)]
  have h8 := hN.2
  unfold thawM thawV
  split
  · unfold iceV
    rw [hNy]
    exact (Int32.add_zero _).symm
  · rename_i hc
    have h0 : 0 < N := Nat.pos_of_ne_zero (fun z => hc (Or.inl z))
    obtain ⟨n, rfl⟩ : ∃ n, N = n + 1 := ⟨N - 1, by omega⟩
    split
    · rename_i hk
      have hk1 : m.1 (LK i j + 1) 0 = 1 := by
        have := (hv 0 (by omega)).1.1
        refine Int32.le_antisymm (Int32.not_lt.mp (fun z => ?_)) this
        have h2 := one_le this (hv 0 (by omega)).1.2
        obtain ⟨k, hk2, e⟩ := nI_of (x := m.1 (LK i j + 1) 0) (Int32.not_lt.mpr (Int32.le_trans (show (0 : Int32) ≤ 1 by decide) this))
        rw [e] at z hk
        have z1 := (nI_ltI (a := 1) (by decide) (by omega)).mp z
        rw [show nI k - 1 = nI (k - 1) from nI_subN (b := 1) (by omega)] at hk
        have := (nI_leI (b := 0) (by omega) (by decide)).mp hk
        omega
      have e3 : nLy (dropM i j (n + 1) (up m (LK i j + 1) 0 (m.1 (LK i j + 1) 0 - 1))) i j = n := by
        show ((dropM i j (n + 1) (up m (LK i j + 1) 0 (m.1 (LK i j + 1) 0 - 1))).1 (LK i j) 3).toNatClampNeg = _
        rw [dropM_eq, set3_o _ _ _ _ _ (by omega), up_same, nI_clamp (by omega)]
        omega
      unfold iceV
      rw [e3, dropM_eq, set3_1, Nat.add_sub_cancel, sum_shift, hk1]
      rw [sum_eq (f2 := fun y => m.1 (LK i j + 1) (y + 1)) n (fun y hy => by
        unfold shiftRow
        rw [show ∀ f f0 : Nat → Int32, upto n f f0 y = f y from fun f f0 => if_pos hy, up_slot _ _ _ (by omega)])]
      rw [Int32.add_comm 1, Int32.add_assoc]
      exact (Int32.add_zero _).symm
    · have e3 : nLy (up m (LK i j + 1) 0 (m.1 (LK i j + 1) 0 - 1)) i j = n + 1 := by
        unfold nLy; rw [up_cell _ _ _ (by omega)]; exact hNy
      unfold iceV
      rw [e3, up_row]
      exact sum_at (j := 0) _ (by omega) (fun y _ hne => upd_ne _ _ hne) (by rw [upd_at, Int32.sub_eq_add_neg])
theorem XL.step {M : Mem} {i j : Nat} {rest : Bool} (h : XL M i) (hL : LW M i) (hj : j < nLk M i) : XL (lkStep i j rest M) i := by
  have hVL := lkStep_VL (rest := rest) h.1 hL hj
  obtain ⟨hV, hW, hI, hO, hP⟩ := h
  have hg := LK_ge i j
  have hlk : LK i j = LA i + 10 + 4 * j := rfl
  have h5 := hL.nl5
  obtain ⟨hL2, hn⟩ := lkStep_LW (rest := rest) hL hj
  have hv3 := lk3_VB (rest := rest) (hV.1 j hj) hV.2
  have hN3 := lk3_LN (rest := rest) (hL.ln hj)
  have hk3 : (lk3 i j rest M).1 (LK i j + 1) = M.1 (LK i j + 1) := by
    unfold lk3
    rw [ckEnd_cell (by omega) (by omega), lk2_cell (by omega)]
  obtain ⟨v, hv⟩ : ∃ v, v = thawV i j (nLy M i j) (M.1 (LA i) 2) (lk3 i j rest M) := ⟨_, rfl⟩
  have hti := thaw_ice (air := M.1 (LA i) 2) hv3 hN3
  rw [hk3, ← hv] at hti
  have e1 : (lkStep i j rest M).1 (LK i j + 1) = (thawM i j (nLy M i j) (M.1 (LA i) 2) (lk3 i j rest M)).1 (LK i j + 1) := by unfold lkStep; rw [up_cell _ _ _ (by omega)]
  have e3 : nLy (lkStep i j rest M) i j = nLy (thawM i j (nLy M i j) (M.1 (LA i) 2) (lk3 i j rest M)) i j := by unfold nLy lkStep; rw [up_cell _ _ _ (by omega)]; rfl
  have hij : iceV (lkStep i j rest M) i j = iceV M i j + -v := by
    unfold iceV at hti ⊢
    rw [e1, e3]
    exact hti
  have hother : ∀ j', j' ≠ j → ∀ o, o < 4 → (lkStep i j rest M).1 (LK i j' + o) = M.1 (LK i j' + o) := fun j' e o ho => by
    have hlk' : LK i j' = LA i + 10 + 4 * j' := rfl
    exact lkStep_cell (by omega) (by omega) (by omega)
  have hice : ∀ j', j' ≠ j → iceV (lkStep i j rest M) i j' = iceV M i j' := fun j' e => by
    unfold iceV
    rw [hother j' e 1 (by omega), show nLy (lkStep i j rest M) i j' = nLy M i j' by unfold nLy; rw [show LK i j' = LK i j' + 0 from rfl, hother j' e 0 (by omega)]]
  have s5 : (lkStep i j rest M).1 (LA i) 5 = M.1 (LA i) 5 + v := by unfold lkStep; rw [up_same, hv]
  refine ⟨hVL, ?_, ?_, fun j' hj' => ?_, fun y hy => ?_⟩
  · rw [lkStep_cell (by omega) (by omega) (by omega), lkStep_cell (by omega) (by omega) (by omega), show nWn (lkStep i j rest M) i = nWn M i by unfold nWn; rw [lkStep_cell (by omega) (by omega) (by omega)]]
    exact hW
  · rw [lkStep_slot (by decide), s5, hn, sum_at (f := iceV M i) (f2 := iceV (lkStep i j rest M) i) (j := j) (d := -v) _ hj (fun y _ hne => hice y hne) hij, ← hI]
    rw [Int32.sub_eq_add_neg, Int32.sub_eq_add_neg, Int32.neg_add, Int32.add_assoc, Int32.sub_eq_add_neg]
  · rw [hn] at hj'
    by_cases e : j' = j
    · subst e
      have d4 : (lkStep i j' rest M).1 (LK i j') 4 = M.1 (LK i j') 4 := by
        unfold lkStep
        rw [up_cell _ _ _ (by omega), thawM_slot (by decide), lk3_slot (by decide)]
      rw [d4, hij]
      refine ⟨(hO j' hj').1, (hO j' hj').2.1, ?_⟩
      have h2 := (hO j' hj').2.2
      obtain ⟨s, hs, hs1, hs2⟩ := ice_nat _ (hV.1 j' hj')
      have h8 := (hL.ln hj').2
      have hvc : v = 0 ∨ (v = 1 ∧ 0 < nLy M i j') := by
        rw [hv]
        unfold thawV
        split
        · exact Or.inl rfl
        · rename_i hc
          exact Or.inr ⟨rfl, Nat.pos_of_ne_zero (fun z => hc (Or.inl z))⟩
      rcases hvc with e | ⟨e, h0⟩
      · rw [e, show -(0 : Int32) = 0 by decide, Int32.add_zero]
        exact h2
      · rw [e]
        rw [show iceV M i j' = nI s from hs] at h2 ⊢
        have e4 : nI s + -1 = nI (s - 1) := (Int32.sub_eq_add_neg _ 1).symm.trans (nI_subN (b := 1) (by omega))
        rw [e4]
        refine Int32.le_trans ?_ h2
        rw [show (2 : Int32) * nI (s - 1) = nI (2 * (s - 1)) from nI_mulN 2 _, show (2 : Int32) * nI s = nI (2 * s) from nI_mulN 2 _]
        exact (nI_leI (by omega) (by omega)).mpr (by omega)
    · rw [show LK i j' = LK i j' + 0 from rfl, hother j' e 0 (by omega), show iceV (lkStep i j rest M) i (j' ) = iceV M i j' from hice j' e]
      exact hO j' hj'
  · have e8 : (lkStep i j rest M).1 (LA i + 8) = (ckM (nI j) (M.1 (LA i) 3) i j (nLy M i j) (lk2 i j rest M) (nLy M i j)).1 (LA i + 8) := by
      unfold lkStep
      rw [up_cell _ _ _ (by omega), thawM_cell (by omega)]
      unfold lk3 ckEnd
      rw [up_cell _ _ _ (by omega)]
    rw [e8]
    refine ckM_pit (lk2_VB (hV.1 j hj) hV.2) (fun y hy => ?_) _ (Nat.le_refl _) y hy
    rw [lk2_cell (by omega)]
    exact hP y hy
theorem XL.lks {M : Mem} {i : Nat} {rest : Bool} (h : XL M i) (hL : LW M i) : ∀ q, q ≤ nLk M i → XL (lksM i rest M q) i
  | 0, _ => h
  | q + 1, hq => by
    obtain ⟨h1, h2⟩ := lks_LW (rest := rest) hL q (by omega)
    exact (XL.lks h hL q (by omega)).step h1 (by omega)
theorem XL.hour {M : Mem} {i : Nat} (h : XL M i) (hL : LW M i) : XL (hourM i M) i := by
  obtain ⟨h1, h2⟩ := hour0_LW hL
  exact (h.hour0 hL.nl5).lks h1 _ (by omega)
theorem XL.hours {M : Mem} {i : Nat} (h : XL M i) (hL : LW M i) : ∀ q, XL (hoursM i M q) i
  | 0 => h
  | q + 1 => (XL.hours h hL q).hour (hours_LW hL q).1
