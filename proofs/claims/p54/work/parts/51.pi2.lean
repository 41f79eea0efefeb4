/-! peals and strains through an hour -/
theorem absD {K T : Nat → Int32} {N y : Nat} (h : VB K T N) (hy : y < N) : ∃ d, d ≤ 60 ∧ absI (T y - (if y + 1 < N then T (y + 1) else 0)) = nI d := by
  have H : ∀ x : Fin 61, ∀ z : Fin 61, absI ((nI x.1 - 40) - (nI z.1 - 40)) = nI (if z.1 ≤ x.1 then x.1 - z.1 else z.1 - x.1) := by decide +kernel
  obtain ⟨x, hx, ex⟩ := off40 (h y hy).2.1 (Int32.le_trans (h y hy).2.2 (by decide))
  have hz : ∃ z, z < 61 ∧ (if y + 1 < N then T (y + 1) else 0) = nI z - 40 := by
    by_cases h1 : y + 1 < N
    · rw [if_pos h1]
      exact off40 (h (y + 1) h1).2.1 (Int32.le_trans (h (y + 1) h1).2.2 (by decide))
    · rw [if_neg h1]
      exact ⟨40, by omega, by decide⟩
  obtain ⟨z, hz, ez⟩ := hz
  rw [ex, ez]
  exact ⟨_, by split <;> omega, H ⟨x, hx⟩ ⟨z, hz⟩⟩
theorem SB.st {K T S : Nat → Int32} {N : Nat} (h : VB K T N) (hs : SB S N 34) : SB (upto N (addS T S N) S) N 94 := by
  intro y hy
  obtain ⟨d, hd, e⟩ := absD h hy
  obtain ⟨s, hs1, e1⟩ := hs y hy
  refine ⟨s + d, by omega, ?_⟩
  rw [show upto N (addS T S N) S y = addS T S N y from if_pos hy]
  unfold addS
  rw [e, e1, nI_add]
theorem SB.mono {S : Nat → Int32} {N b b' : Nat} (h : SB S N b) (hb : b ≤ b') : SB S N b' := fun y hy => by obtain ⟨s, a, e⟩ := h y hy; exact ⟨s, by omega, e⟩
def CKS (S : Nat → Int32) (N q : Nat) : Prop := ∀ y, y < N → ∃ s, S y = nI s ∧ s ≤ (if y + 1 < q then 34 else if y + 1 = q then 29 else if y = q then 99 else 94)
def psh (N : Nat) (x : Int32) (S : Nat → Int32) : Nat → Int32 := if 0 ≤ x ∧ x < nI N then upd S x.toNatClampNeg (S x.toNatClampNeg + 5) else S
theorem pushM_row {i j N : Nat} {x : Int32} {m : Mem} : (pushM i j N x m).1 (LK i j + 3) = psh N x (m.1 (LK i j + 3)) := by
  unfold pushM psh
  split
  · rw [up_row]
  · rfl
theorem psh_in {N q : Nat} {S : Nat → Int32} (hN : N ≤ 8) (hq : q < N) : psh N (nI q) S = upd S q (S q + 5) := by
  unfold psh
  rw [if_pos ⟨(nI_leI (a := 0) (by decide) (by omega)).mpr (Nat.zero_le _), (nI_ltI (by omega) (by omega)).mpr hq⟩, nI_clamp (by omega)]
theorem psh_out {N q : Nat} {S : Nat → Int32} (hN : N ≤ 8) (hq : N ≤ q) (hq9 : q ≤ 9) : psh N (nI q) S = S := if_neg (fun z => absurd ((nI_ltI (by omega) (by omega)).mp z.2) (by omega))
theorem psh_neg {N : Nat} {S : Nat → Int32} : psh N (nI 0 - 1) S = S := if_neg (fun z => absurd z.1 (by decide))
theorem ck_row {S : Nat → Int32} {N q : Nat} (hN : N ≤ 8) (hq : q < N) : ∀ y, y < N → psh N (nI (q + 1)) (psh N (nI q - 1) (upd S q 0)) y = if y = q then 0 else if y = q + 1 then S y + 5 else if y + 1 = q then S y + 5 else S y := by
  intro y hy
  have h1 : ∀ y, psh N (nI q - 1) (upd S q 0) y = if y = q then 0 else if y + 1 = q then S y + 5 else S y := by
    intro y
    cases q with
    | zero =>
      rw [psh_neg]
      by_cases e : y = 0
      · subst e; rw [if_pos rfl]; exact if_pos rfl
      · rw [if_neg e, if_neg (by omega)]; exact if_neg e
    | succ q =>
      rw [show nI (q + 1) - 1 = nI q from nI_subN (b := 1) (by omega), psh_in hN (by omega)]
      by_cases e : y = q + 1
      · subst e
        rw [if_pos rfl]
        rw [upd_ne _ _ (by omega), upd_at]
      · rw [if_neg e]
        by_cases e2 : y = q
        · subst e2
          rw [if_pos rfl, upd_at, upd_ne _ _ (by omega)]
        · rw [if_neg (by omega), upd_ne _ _ e2, upd_ne _ _ e]
  by_cases hq1 : q + 1 < N
  · rw [psh_in hN hq1]
    by_cases e : y = q + 1
    · subst e
      rw [upd_at, h1, if_neg (by omega), if_neg (by omega), if_neg (by omega), if_pos rfl]
    · rw [upd_ne _ _ e, h1, if_neg e]
  · rw [psh_out hN (by omega) (by omega), h1]
    by_cases e : y = q
    · rw [if_pos e, if_pos e]
    · rw [if_neg e, if_neg e, if_neg (show ¬ y = q + 1 by omega)]
theorem CKS.step {num hr : Int32} {i j N q : Nat} {m : Mem} (hN : N ≤ 8) (hq : q < N) (h : CKS (m.1 (LK i j + 3)) N q) : CKS ((ckStep num hr i j N q m).1 (LK i j + 3)) N (q + 1) := by
  have hg := LK_ge i j
  unfold ckStep
  by_cases hc : 30 ≤ m.1 (LK i j + 3) q
  · rw [if_pos hc, pushM_row, pushM_row, up_row, recM_cell (by omega)]
    intro y hy
    rw [ck_row hN hq y hy]
    obtain ⟨s, e, hs⟩ := h y hy
    by_cases e1 : y = q
    · rw [if_pos e1]
      exact ⟨0, rfl, Nat.zero_le _⟩
    · rw [if_neg e1]
      by_cases e2 : y = q + 1
      · rw [if_pos e2, e, show nI s + 5 = nI (s + 5) from nI_add s 5]
        rw [if_neg (by omega), if_neg (by omega), if_neg e1] at hs
        exact ⟨s + 5, rfl, by rw [if_neg (by omega), if_neg (by omega), if_pos e2]; omega⟩
      · rw [if_neg e2]
        by_cases e3 : y + 1 = q
        · rw [if_pos e3, e, show nI s + 5 = nI (s + 5) from nI_add s 5]
          rw [if_neg (by omega), if_pos e3] at hs
          exact ⟨s + 5, rfl, by rw [if_pos (by omega)]; omega⟩
        · rw [if_neg e3]
          refine ⟨s, e, ?_⟩
          by_cases e4 : y + 1 < q
          · rw [if_pos e4] at hs
            rw [if_pos (by omega)]
            exact hs
          · rw [if_neg e4, if_neg e3, if_neg e1] at hs
            rw [if_neg (by omega), if_neg (by omega), if_neg e2]
            exact hs
  · rw [if_neg hc]
    intro y hy
    obtain ⟨s, e, hs⟩ := h y hy
    refine ⟨s, e, ?_⟩
    by_cases e1 : y = q
    · subst e1
      have : s < 30 := by
        rw [e] at hc
        have hs2 : s ≤ 99 := by
          rw [if_neg (by omega), if_neg (by omega), if_pos rfl] at hs
          exact hs
        exact Nat.not_le.mp (fun z => hc ((nI_leI (a := 30) (by decide) (by omega)).mpr z))
      rw [if_neg (by omega), if_pos rfl]
      omega
    · by_cases e3 : y + 1 = q
      · rw [if_neg (by omega), if_pos e3] at hs
        rw [if_pos (by omega)]
        omega
      · by_cases e4 : y + 1 < q
        · rw [if_pos e4] at hs
          rw [if_pos (by omega)]
          exact hs
        · rw [if_neg e4, if_neg e3, if_neg e1] at hs
          rw [if_neg (by omega), if_neg (by omega)]
          split <;> omega
theorem ck_all {h n : Nat} {i j N : Nat} {m : Mem} (hN : N ≤ 8) (hj : j < n) (hP : PR m i (wOf m i) (cOf m i)) (hp : PQ h n m i) (hs : CKS (m.1 (LK i j + 3)) N 0) : ∀ q, q ≤ N → (PR (ckM (nI j) (nI h) i j N m q) i (wOf (ckM (nI j) (nI h) i j N m q) i) (cOf (ckM (nI j) (nI h) i j N m q) i) ∧ PQ h n (ckM (nI j) (nI h) i j N m q) i) ∧ CKS ((ckM (nI j) (nI h) i j N m q).1 (LK i j + 3)) N q
  | 0, _ => ⟨⟨hP, hp⟩, hs⟩
  | q + 1, hq => by
    obtain ⟨⟨h1, h2⟩, h3⟩ := ck_all hN hj hP hp hs q (by omega)
    have hg := LK_ge i j
    refine ⟨?_, h3.step hN (by omega)⟩
    show PR (ckStep (nI j) (nI h) i j N q (ckM (nI j) (nI h) i j N m q)) i (wOf (ckStep (nI j) (nI h) i j N q (ckM (nI j) (nI h) i j N m q)) i) (cOf (ckStep (nI j) (nI h) i j N q (ckM (nI j) (nI h) i j N m q)) i) ∧ PQ h n (ckStep (nI j) (nI h) i j N q (ckM (nI j) (nI h) i j N m q)) i
    obtain ⟨M, hM⟩ : ∃ M, M = ckM (nI j) (nI h) i j N m q := ⟨_, rfl⟩
    rw [← hM] at h1 h2 ⊢
    unfold ckStep
    split
    · have e : ∀ o, 5 ≤ o → o ≤ 9 → (pushM i j N (nI (q + 1)) (pushM i j N (nI q - 1) (up (recM i (wOf M i) (cOf M i) 99 (nI j) (ckPitch M i j q) (nI h) M) (LK i j + 3) q 0))).1 (LA i + o) = (recM i (wOf M i) (cOf M i) 99 (nI j) (ckPitch M i j q) (nI h) M).1 (LA i + o) := fun o o5 o9 => by
        rw [pushM_cell (by omega), pushM_cell (by omega), up_cell _ _ _ (by omega)]
      refine ⟨?_, (h2.recd h1 hj (Or.inl rfl)).cells e⟩
      have hp := recM_PR (i := i) (w := wOf M i) (cn := cOf M i) (kd := 99) (lk := nI j) (pt := ckPitch M i j q) (hr := nI h) (m := M)
      have e5 := e 5 (by omega) (by omega)
      generalize pushM i j N (nI (q + 1)) (pushM i j N (nI q - 1) (up (recM i (wOf M i) (cOf M i) 99 (nI j) (ckPitch M i j q) (nI h) M) (LK i j + 3) q 0)) = X at e5 ⊢
      obtain ⟨p1, p2, p3, p4⟩ := hp
      have a1 := (congrFun e5 5).trans p1
      have a2 := (congrFun e5 4).trans p3
      have w1 : wOf X i = (wOf M i + 1) % 16 := by
        show (X.1 (LA i + 5) 5).toNatClampNeg = _
        rw [a1, nI_clamp (by omega)]
      have w2 : cOf X i = min (cOf M i + 1) 16 := by
        show (X.1 (LA i + 5) 4).toNatClampNeg = _
        rw [a2, nI_clamp (by omega)]
      rw [w1, w2]
      exact ⟨a1, p2, a2, p4⟩
    · exact ⟨h1, h2⟩
theorem CKS.last {S : Nat → Int32} {N : Nat} (h : CKS S N N) : SB S N 34 := by
  intro y hy
  obtain ⟨s, e, hs⟩ := h y hy
  refine ⟨s, ?_, e⟩
  split at hs
  · exact hs
  · rw [if_pos (by omega)] at hs; omega
theorem SB.thaw {i j N : Nat} {air : Int32} {m : Mem} (hN : LN m i j N) (h : SB (m.1 (LK i j + 3)) N 34) : SB ((thawM i j N air m).1 (LK i j + 3)) (nLy (thawM i j N air m) i j) 34 := by
  have hn : nLy m i j = N := by unfold nLy; rw [hN.1, nI_clamp (by have := hN.2; omega)]
  unfold thawM
  split
  · rw [hn]; exact h
  · split
    · have e1 : (dropM i j N (up m (LK i j + 1) 0 (m.1 (LK i j + 1) 0 - 1))).1 (LK i j + 3) = shiftRow (m.1 (LK i j + 3)) (N - 1) := by
        unfold dropM
        rw [setRow_same, up_cell _ _ _ (by omega)]
      have e2 : nLy (dropM i j N (up m (LK i j + 1) 0 (m.1 (LK i j + 1) 0 - 1))) i j = N - 1 := by
        unfold nLy dropM
        rw [setRow_cell _ _ (by omega), setRow_cell _ _ (by omega), setRow_cell _ _ (by omega), up_same, nI_clamp (by have := hN.2; omega)]
      rw [e1, e2]
      intro y hy
      rw [show shiftRow (m.1 (LK i j + 3)) (N - 1) y = m.1 (LK i j + 3) (y + 1) from if_pos hy]
      exact h (y + 1) (by omega)
    · rw [up_cell _ _ _ (by omega), show nLy (up m (LK i j + 1) 0 (m.1 (LK i j + 1) 0 - 1)) i j = N by unfold nLy; rw [up_cell _ _ _ (by omega), hN.1, nI_clamp (by have := hN.2; omega)]]
      exact h
theorem PI.step {K : Nat} {M : Mem} {i j : Nat} {rest : Bool} (p : PI K M i) (hV : VL M i) (hL : LW M i) (hj : j < nLk M i) : PI K (lkStep i j rest M) i := by
  obtain ⟨h, a, b, c, d⟩ := p
  have hg := LK_ge i j
  have hlk : LK i j = LA i + 10 + 4 * j := rfl
  have h5 := hL.nl5
  have hN := hL.ln hj
  obtain ⟨hL2, hn⟩ := lkStep_LW (rest := rest) hL hj
  have c2 : PQ h (nLk M i) (lk2 i j rest M) i := c.cells (fun o _ _ => lk2_cell (by omega))
  have P2 : PR (lk2 i j rest M) i (wOf (lk2 i j rest M) i) (cOf (lk2 i j rest M) i) := by
    have e2 : (lk2 i j rest M).1 (LA i + 5) = M.1 (LA i + 5) := lk2_cell (by omega)
    unfold PR wOf cOf
    rw [e2]
    exact hL.2.2.2.1
  have s2 : SB ((lk2 i j rest M).1 (LK i j + 3)) (nLy M i j) 94 := by
    have hv2 := lk2_VB (rest := true) (hV.1 j hj) hV.2
    unfold lk2 at hv2 ⊢
    rw [if_pos rfl] at hv2
    cases rest
    · rw [if_neg (by decide)]
      unfold stM
      rw [setRow_same, show (mvM i j (nLy M i j) (M.1 (LA i) 2) M).1 (LK i j + 3) = M.1 (LK i j + 3) by unfold mvM; rw [setRow_cell _ _ (by omega)]]
      exact SB.st hv2 (d j hj)
    · rw [if_pos rfl]
      unfold mvM
      rw [setRow_cell _ _ (by omega)]
      exact (d j hj).mono (by omega)
  have s0 : CKS ((lk2 i j rest M).1 (LK i j + 3)) (nLy M i j) 0 := fun y hy => by
    obtain ⟨s, hs, e⟩ := s2 y hy
    exact ⟨s, e, by rw [if_neg (by omega), if_neg (by omega)]; split <;> omega⟩
  obtain ⟨⟨-, c3⟩, s3⟩ := ck_all hN.2 hj P2 c2 s0 (nLy M i j) (Nat.le_refl _)
  have e3 : lk3 i j rest M = ckEnd (nI j) (nI h) i j (nLy M i j) (lk2 i j rest M) := by unfold lk3; rw [b]
  have c4 : PQ h (nLk M i) (lk3 i j rest M) i := by
    rw [e3]
    exact c3.cells (fun o _ _ => by unfold ckEnd; rw [up_cell _ _ _ (by omega)])
  have s4 : SB ((lk3 i j rest M).1 (LK i j + 3)) (nLy M i j) 34 := by
    rw [e3]
    unfold ckEnd
    rw [up_cell _ _ _ (by omega)]
    exact s3.last
  have s5 := s4.thaw (air := M.1 (LA i) 2) (lk3_LN (rest := rest) hN)
  refine ⟨h, a, by rw [lkStep_slot (by decide)]; exact b, ?_, fun j' hj' => ?_⟩
  · rw [hn]
    exact c4.cells (fun o _ _ => by unfold lkStep; rw [up_cell _ _ _ (by omega), thawM_cell (by omega)])
  · rw [hn] at hj'
    by_cases e : j' = j
    · subst e
      rw [show (lkStep i j' rest M).1 (LK i j' + 3) = (thawM i j' (nLy M i j') (M.1 (LA i) 2) (lk3 i j' rest M)).1 (LK i j' + 3) by unfold lkStep; rw [up_cell _ _ _ (by omega)], show nLy (lkStep i j' rest M) i j' = nLy (thawM i j' (nLy M i j') (M.1 (LA i) 2) (lk3 i j' rest M)) i j' by unfold nLy lkStep; rw [up_cell _ _ _ (by omega)]; rfl]
      exact s5
    · have e1 : LK i j' = LA i + 10 + 4 * j' := rfl
      rw [lkStep_cell (by omega) (by omega) (by omega), show nLy (lkStep i j rest M) i j' = nLy M i j' by unfold nLy; rw [lkStep_cell (by omega) (by omega) (by omega)]]
      exact d j' hj'
theorem PI.lks {K : Nat} {M : Mem} {i : Nat} {rest : Bool} (p : PI K M i) (hV : VL M i) (hL : LW M i) : ∀ q, q ≤ nLk M i → PI K (lksM i rest M q) i
  | 0, _ => p
  | q + 1, hq => by
    obtain ⟨h1, h2⟩ := lks_LW (rest := rest) hL q (by omega)
    exact (PI.lks p hV hL q (by omega)).step (lks_VL hV hL q (by omega)) h1 (by omega)
theorem PI.hour0 {K : Nat} {M : Mem} {i : Nat} (p : PI K M i) (hL : LW M i) : PI (K + 1) (hourM0 i M) i := by
  obtain ⟨h, a, b, c, d⟩ := p
  have h5 := hL.nl5
  have hc : ∀ o, 1 ≤ o → (hourM0 i M).1 (LA i + o) = M.1 (LA i + o) := fun o _ => up_cell _ _ _ (by omega)
  have en := (hour0_LW hL).2
  refine ⟨h + 1, by omega, ?_, ?_, fun j hj => ?_⟩
  · show (up M (LA i) 3 (M.1 (LA i) 3 + 1)).1 (LA i) 3 = _
    rw [up_same, b]
    exact nI_add h 1
  · rw [en]
    exact (c.mono (by omega) (Nat.le_refl _)).cells (fun o _ _ => hc o (by omega))
  · rw [en] at hj
    rw [LKo, hc _ (by omega), ← LKo, show nLy (hourM0 i M) i j = nLy M i j by unfold nLy; rw [LKo0, hc _ (by omega)]]
    exact d j hj
theorem PI.hour {K : Nat} {M : Mem} {i : Nat} (p : PI K M i) (hV : VL M i) (hL : LW M i) : PI (K + 1) (hourM i M) i := by
  obtain ⟨h1, h2⟩ := hour0_LW hL
  exact (p.hour0 hL).lks (hour0_VL hV) h1 _ (by omega)
theorem PI.hours {K : Nat} {M : Mem} {i : Nat} (p : PI K M i) (hV : VL M i) (hL : LW M i) : ∀ q, PI (K + q) (hoursM i M q) i
  | 0 => p
  | q + 1 => (PI.hours p hV hL q).hour (hours_VL hV hL q) (hours_LW hL q).1
