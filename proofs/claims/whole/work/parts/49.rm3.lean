/-! the row beside the landscape: a lake placed, a layer grown, windows put in and taken out -/
theorem upd_comm {R : Nat → Int32} {a b : Nat} {v w : Int32} (h : a ≠ b) : upd (upd R a v) b w = upd (upd R b w) a v := by
  funext k
  unfold upd
  by_cases h1 : k = a
  · rw [if_pos h1, if_neg (by omega), if_pos h1]
  · rw [if_neg h1, if_neg h1]
theorem RM.place {R : Nat → Int32} {M : Mem} {i : Nat} {d : Int32} (h : RM R M i) (h5 : nLk M i < 5) : RM (upd (upd (upd (upd R (7 + 27 * nLk M i) d) (8 + 27 * nLk M i) 0) (9 + 27 * nLk M i) 0) 2 (nI (nLk M i + 1))) (placeM i d M) i := by
  obtain ⟨hM, hL, hn, hf, hl, hw, hp⟩ := h
  obtain ⟨n, hnn⟩ : ∃ n, n = nLk M i := ⟨_, rfl⟩
  have hg := LK_ge i n
  have hlk : LK i n = LA i + 10 + 4 * n := rfl
  obtain ⟨hL', e1⟩ := place_LW (d := d) hL h5
  have hc : ∀ k, k ≠ LK i n → k ≠ LA i → (placeM i d M).1 k = M.1 k := fun k a b => placeM_cell (by rw [← hnn]; exact a) b
  have hs : ∀ f, f ≠ 1 → (placeM i d M).1 (LA i) f = M.1 (LA i) f := fun f hf1 => by
    unfold placeM
    rw [← hnn, up_slot _ _ _ hf1, up_cell _ _ _ (by omega), up_cell _ _ _ (by omega), up_cell _ _ _ (by omega)]
  have t4 : (placeM i d M).1 (LK i n) 4 = d := by unfold placeM; rw [← hnn, up_cell _ _ _ (by omega), up_slot _ _ _ (by omega), up_slot _ _ _ (by omega), up_same]
  have t5 : (placeM i d M).1 (LK i n) 5 = 0 := by unfold placeM; rw [← hnn, up_cell _ _ _ (by omega), up_same]
  have t3 : nLy (placeM i d M) i n = 0 := by
    unfold nLy placeM
    rw [← hnn, up_cell _ _ _ (by omega), up_slot _ _ _ (by omega), up_same]
    rfl
  rw [← hnn] at h5 e1 hn ⊢
  have e2 : ∀ j', j' ≠ n → nLy (placeM i d M) i j' = nLy M i j' := fun j' e => by have hlk' : LK i j' = LA i + 10 + 4 * j' := rfl; unfold nLy; rw [hc _ (by omega) (by omega)]
  have e3 : nWn (placeM i d M) i = nWn M i := by unfold nWn; rw [hc _ (by omega) (by omega)]
  have e4 : wOf (placeM i d M) i = wOf M i := by unfold wOf; rw [hc _ (by omega) (by omega)]
  have e5 : cOf (placeM i d M) i = cOf M i := by unfold cOf; rw [hc _ (by omega) (by omega)]
  obtain ⟨R', hR'⟩ : ∃ R', R' = upd (upd (upd (upd R (7 + 27 * n) d) (8 + 27 * n) 0) (9 + 27 * n) 0) 2 (nI (n + 1)) := ⟨_, rfl⟩
  rw [← hR']
  have hR : ∀ k, k ≠ 2 → (k < 7 + 27 * n ∨ 9 + 27 * n < k) → R' k = R k := fun k a b => by
    rw [hR', upd_ne _ _ a, upd_ne _ _ (by omega), upd_ne _ _ (by omega), upd_ne _ _ (by omega)]
  have r2 : R' 2 = nI (n + 1) := by rw [hR', upd_at]
  have r7 : R' (7 + 27 * n) = d := by rw [hR', upd_ne _ _ (by omega), upd_ne _ _ (by omega), upd_ne _ _ (by omega), upd_at]
  have r8 : R' (8 + 27 * n) = 0 := by rw [hR', upd_ne _ _ (by omega), upd_ne _ _ (by omega), upd_at]
  have r9 : R' (9 + 27 * n) = 0 := by rw [hR', upd_ne _ _ (by omega), upd_at]
  have f1 : mL R' = n + 1 := by unfold mL; rw [r2, nI_clamp (by omega)]
  have f2 : mN R' = mN R := by unfold mN; rw [hR _ (by omega) (by omega)]
  have f3 : mP R' = mP R := by unfold mP; rw [hR _ (by omega) (by omega)]
  have f4 : ∀ j', j' ≠ n → mY R' j' = mY R j' := fun j' e => by unfold mY; rw [hR _ (by omega) (by omega)]
  have f4n : mY R' n = 0 := by unfold mY; rw [r9]; rfl
  refine ⟨⟨⟨by rw [f1]; exact r2, by rw [f1]; omega⟩, fun j' hj' => ?_, by rw [f2, hR _ (by omega) (by omega)]; exact hM.2.2.1, by rw [f3, hR _ (by omega) (by omega)]; exact hM.2.2.2⟩, hL', by rw [f1, e1], ?_, fun j' hj' => ?_, ?_, ?_⟩
  · by_cases e : j' = n
    · subst e; rw [f4n, r9]; exact ⟨rfl, by omega⟩
    · rw [f4 j' e, hR _ (by omega) (by omega)]; exact hM.2.1 j' hj'
  · rw [hR 0 (by omega) (by omega), hR 1 (by omega) (by omega), hR 5 (by omega) (by omega), hR 6 (by omega) (by omega), hs 3 (by omega), hs 2 (by omega), hs 4 (by omega), hs 5 (by omega)]
    exact hf
  · rw [e1] at hj'
    by_cases e : j' = n
    · subst e
      rw [f4n, t3]
      refine ⟨rfl, fun c' hc' => ?_, fun y' hy' => absurd hy' (by omega)⟩
      rcases (by omega : c' = 0 ∨ c' = 1) with rfl | rfl
      · exact r7.trans t4.symm
      · exact (show R' (7 + 1 + 27 * j') = 0 from r8).trans t5.symm
    · obtain ⟨g1, g2, g3⟩ := hl j' (by omega)
      have hlk' : LK i j' = LA i + 10 + 4 * j' := rfl
      have h8' := (hL.ln (j := j') (by omega)).2
      rw [f4 j' e, e2 j' e]
      refine ⟨g1, fun c' hc' => ?_, fun y' hy' c' a b => ?_⟩
      · rw [hR _ (by omega) (by omega), hc _ (by omega) (by omega)]
        exact g2 c' hc'
      · rw [hR _ (by omega) (by omega), hc _ (by omega) (by omega)]
        exact g3 y' hy' c' a b
  · rw [f2, e3]
    have h6 := hL.wr.2
    refine ⟨hw.1, fun w hw' c' hc' => ?_⟩
    rw [hR _ (by omega) (by omega), hc _ (by omega) (by omega)]
    exact hw.2 w hw' c' hc'
  · rw [f3, e5]
    refine ⟨hp.1, fun q hq' c' hc' => ?_⟩
    unfold psl
    rw [e4, hR _ (by omega) (by omega), hc _ (by omega) (by omega)]
    exact hp.2 q hq' c' hc'
theorem RM.cnt {R : Nat → Int32} {M : Mem} {i j : Nat} (h : RM R M i) (hj : j < nLk M i) (h7 : nLy M i j < 8) (hy : ∀ c, 1 ≤ c → c ≤ 3 → R (9 + c + 27 * j + 3 * nLy M i j) = M.1 (LK i j + c) (nLy M i j)) : RM (upd R (9 + 27 * j) (nI (nLy M i j + 1))) (up M (LK i j) 3 (nI (nLy M i j + 1))) i := by
  obtain ⟨hM, hL, hn, hf, hl, hw, hp⟩ := h
  have h5 := hL.nl5
  have hg := LK_ge i j
  have hlk : LK i j = LA i + 10 + 4 * j := rfl
  have hc : ∀ k, k ≠ LK i j → (up M (LK i j) 3 (nI (nLy M i j + 1))).1 k = M.1 k := fun k hk => up_cell _ _ _ hk
  obtain ⟨hL', e1⟩ : LW (up M (LK i j) 3 (nI (nLy M i j + 1))) i ∧ nLk (up M (LK i j) 3 (nI (nLy M i j + 1))) i = nLk M i := by
    refine hL.lake (j := j) (by rw [hc _ (by omega)]) (hc _ (by omega)) (fun j' hj' e => ?_) ⟨nLy M i j + 1, up_same _ _ _ _, by omega⟩ ⟨_, _, hL.pr.row (hc _ (by omega))⟩ (fun y hy => by rw [hc _ (by omega)]; exact hL.kf y hy)
    have hlk' : LK i j' = LA i + 10 + 4 * j' := rfl
    exact hc _ (by omega)
  have e2 : ∀ j', j' ≠ j → nLy (up M (LK i j) 3 (nI (nLy M i j + 1))) i j' = nLy M i j' := fun j' e => by have hlk' : LK i j' = LA i + 10 + 4 * j' := rfl; show ((up M (LK i j) 3 (nI (nLy M i j + 1))).1 (LK i j') 3).toNatClampNeg = (M.1 (LK i j') 3).toNatClampNeg; rw [hc _ (by omega)]
  have e2j : nLy (up M (LK i j) 3 (nI (nLy M i j + 1))) i j = nLy M i j + 1 := by
    show ((up M (LK i j) 3 (nI (nLy M i j + 1))).1 (LK i j) 3).toNatClampNeg = _
    rw [up_same, nI_clamp (by omega)]
  have e3 : nWn (up M (LK i j) 3 (nI (nLy M i j + 1))) i = nWn M i := by unfold nWn; rw [hc _ (by omega)]
  have e4 : wOf (up M (LK i j) 3 (nI (nLy M i j + 1))) i = wOf M i := by unfold wOf; rw [hc _ (by omega)]
  have e5 : cOf (up M (LK i j) 3 (nI (nLy M i j + 1))) i = cOf M i := by unfold cOf; rw [hc _ (by omega)]
  have hR : ∀ k, k ≠ 9 + 27 * j → upd R (9 + 27 * j) (nI (nLy M i j + 1)) k = R k := fun k hk => upd_ne _ _ hk
  have f1 : mL (upd R (9 + 27 * j) (nI (nLy M i j + 1))) = mL R := by unfold mL; rw [hR _ (by omega)]
  have f2 : mN (upd R (9 + 27 * j) (nI (nLy M i j + 1))) = mN R := by unfold mN; rw [hR _ (by omega)]
  have f3 : mP (upd R (9 + 27 * j) (nI (nLy M i j + 1))) = mP R := by unfold mP; rw [hR _ (by omega)]
  have f4 : ∀ j', j' ≠ j → mY (upd R (9 + 27 * j) (nI (nLy M i j + 1))) j' = mY R j' := fun j' e => by unfold mY; rw [hR _ (by omega)]
  have f4j : mY (upd R (9 + 27 * j) (nI (nLy M i j + 1))) j = nLy M i j + 1 := by unfold mY; rw [upd_at, nI_clamp (by omega)]
  refine ⟨⟨by rw [f1, hR _ (by omega)]; exact hM.1, fun j' hj' => ?_, by rw [f2, hR _ (by omega)]; exact hM.2.2.1, by rw [f3, hR _ (by omega)]; exact hM.2.2.2⟩, hL', by rw [f1, e1]; exact hn, ?_, fun j' hj' => ?_, ?_, ?_⟩
  · by_cases e : j' = j
    · subst e; rw [f4j, upd_at]; exact ⟨rfl, by omega⟩
    · rw [f4 j' e, hR _ (by omega)]; exact hM.2.1 j' hj'
  · rw [hR _ (by omega), hR _ (by omega), hR _ (by omega), hR _ (by omega), hc _ (by omega)]
    exact hf
  · rw [e1] at hj'
    obtain ⟨g1, g2, g3⟩ := hl j' hj'
    have hlk' : LK i j' = LA i + 10 + 4 * j' := rfl
    have h8' := (hL.ln hj').2
    by_cases e : j' = j
    · subst e
      rw [f4j, e2j]
      refine ⟨rfl, fun c' hc' => ?_, fun y' hy' c' a b => ?_⟩
      · rw [hR _ (by omega), up_slot _ _ _ (by omega)]
        exact g2 c' hc'
      · rw [hR _ (by omega), hc _ (by omega)]
        by_cases e' : y' = nLy M i j'
        · rw [e']; exact hy c' a b
        · exact g3 y' (by omega) c' a b
    · rw [f4 j' e, e2 j' e]
      refine ⟨g1, fun c' hc' => ?_, fun y' hy' c' a b => ?_⟩
      · rw [hR _ (by omega), hc _ (by omega)]
        exact g2 c' hc'
      · rw [hR _ (by omega), hc _ (by omega)]
        exact g3 y' hy' c' a b
  · rw [f2, e3]
    have h6 := hL.wr.2
    refine ⟨hw.1, fun w hw' c' hc' => ?_⟩
    rw [hR _ (by omega), hc _ (by omega)]
    exact hw.2 w hw' c' hc'
  · rw [f3, e5]
    refine ⟨hp.1, fun q hq' c' hc' => ?_⟩
    unfold psl
    rw [e4, hR _ (by omega), hc _ (by omega)]
    exact hp.2 q hq' c' hc'
theorem RM.grow {R : Nat → Int32} {M : Mem} {i j : Nat} {t te : Int32} (h : RM R M i) (hj : j < nLk M i) (h7 : nLy M i j < 8) : RM (upd (upd (upd (upd (upd R (10 + 27 * j + 3 * nLy M i j) t) (11 + 27 * j + 3 * nLy M i j) te) (12 + 27 * j + 3 * nLy M i j) 0) (9 + 27 * j) (nI (nLy M i j + 1))) 5 (R 5 + t)) (growM i j t te M) i := by
  have h5 := h.2.1.nl5
  have hg := LK_ge i j
  obtain ⟨N, hN⟩ : ∃ N, N = nLy M i j := ⟨_, rfl⟩
  have s0 := h.fld (a := 5) (f := 4) (v := M.1 (LA i) 4 + t) (by omega)
  obtain ⟨M0, hM0⟩ : ∃ x, x = up M (LA i) 4 (M.1 (LA i) 4 + t) := ⟨_, rfl⟩
  have n0 : nLk M0 i = nLk M i := by rw [hM0]; unfold nLk; rw [up_slot _ _ _ (by omega)]
  rw [← hM0] at s0
  have s1 := s0.lay (j := j) (y := N) (c := 1) (v := t) (by rw [n0]; exact hj) (by omega) (by omega) (by omega)
  obtain ⟨M1, hM1⟩ : ∃ x, x = up M0 (LK i j + 1) N t := ⟨_, rfl⟩
  have n1 : nLk M1 i = nLk M i := by rw [hM1]; unfold nLk; rw [up_cell _ _ _ (by omega)]; exact n0
  rw [← hM1] at s1
  have s2 := s1.lay (j := j) (y := N) (c := 2) (v := te) (by rw [n1]; exact hj) (by omega) (by omega) (by omega)
  obtain ⟨M2, hM2⟩ : ∃ x, x = up M1 (LK i j + 2) N te := ⟨_, rfl⟩
  have n2 : nLk M2 i = nLk M i := by rw [hM2]; unfold nLk; rw [up_cell _ _ _ (by omega)]; exact n1
  rw [← hM2] at s2
  have s3 := s2.lay (j := j) (y := N) (c := 3) (v := 0) (by rw [n2]; exact hj) (by omega) (by omega) (by omega)
  obtain ⟨M3, hM3⟩ : ∃ x, x = up M2 (LK i j + 3) N 0 := ⟨_, rfl⟩
  have n3 : nLk M3 i = nLk M i := by rw [hM3]; unfold nLk; rw [up_cell _ _ _ (by omega)]; exact n2
  have y3 : nLy M3 i j = N := by rw [hM3, hM2, hM1, hM0]; unfold nLy; rw [up_cell _ _ _ (by omega), up_cell _ _ _ (by omega), up_cell _ _ _ (by omega), up_cell _ _ _ (by omega), hN]; rfl
  rw [← hM3] at s3
  have s4 := s3.cnt (j := j) (by rw [n3]; exact hj) (by rw [y3]; omega) (by
    rw [y3]
    intro c a b
    rcases (by omega : c = 1 ∨ c = 2 ∨ c = 3) with rfl | rfl | rfl
    · rw [upd_ne _ _ (by omega), upd_ne _ _ (by omega), upd_at, hM3, up_cell _ _ _ (by omega), hM2, up_cell _ _ _ (by omega), hM1, up_same]
    · rw [upd_ne _ _ (by omega), upd_at, hM3, up_cell _ _ _ (by omega), hM2, up_same]
    · rw [upd_at, hM3, up_same])
  rw [y3] at s4
  rw [← hN]
  have hrow : upd (upd (upd (upd (upd R (10 + 27 * j + 3 * N) t) (11 + 27 * j + 3 * N) te) (12 + 27 * j + 3 * N) 0) (9 + 27 * j) (nI (N + 1))) 5 (R 5 + t) = upd (upd (upd (upd (upd R 5 (M.1 (LA i) 4 + t)) (9 + 1 + 27 * j + 3 * N) t) (9 + 2 + 27 * j + 3 * N) te) (9 + 3 + 27 * j + 3 * N) 0) (9 + 27 * j) (nI (N + 1)) := by
    rw [h.2.2.2.1.2.2.1, upd_comm (a := 9 + 27 * j) (b := 5) (by omega), upd_comm (a := 12 + 27 * j + 3 * N) (b := 5) (by omega), upd_comm (a := 11 + 27 * j + 3 * N) (b := 5) (by omega), upd_comm (a := 10 + 27 * j + 3 * N) (b := 5) (by omega)]
  rw [hrow]
  have hmem : growM i j t te M = up M3 (LK i j) 3 (nI (N + 1)) := by
    unfold growM
    rw [hM3, hM2, hM1, hM0, hN]
  rw [hmem]
  exact s4
theorem RM.win {R R' : Nat → Int32} {M M' : Mem} {i n' : Nat} (h : RM R M i) (hR : ∀ k, k ≠ 3 → (k < 142 ∨ 154 ≤ k) → R' k = R k) (hc : ∀ k, (k < LA i + 2 ∨ LA i + 4 < k) → M'.1 k = M.1 k) (hn6 : n' ≤ 6) (h3 : R' 3 = nI n') (h2 : M'.1 (LA i + 2) 2 = nI n') (hw' : ∀ w, w < n' → ∀ c, c < 2 → R' (142 + 2 * w + c) = M'.1 (LA i + 3 + c) w) (hL' : LW M' i ∧ nLk M' i = nLk M i) : RM R' M' i := by
  obtain ⟨hM, hL, hn, hf, hl, hw, hp⟩ := h
  obtain ⟨hL', e1⟩ := hL'
  have h5 := hL.nl5
  have e2 : ∀ j', nLy M' i j' = nLy M i j' := fun j' => by have hlk' : LK i j' = LA i + 10 + 4 * j' := rfl; unfold nLy; rw [hc _ (by omega)]
  have e3 : nWn M' i = n' := by unfold nWn; rw [h2, nI_clamp (by omega)]
  have e4 : wOf M' i = wOf M i := by unfold wOf; rw [hc _ (by omega)]
  have e5 : cOf M' i = cOf M i := by unfold cOf; rw [hc _ (by omega)]
  have f1 : mL R' = mL R := by unfold mL; rw [hR _ (by omega) (by omega)]
  have f2 : mN R' = n' := by unfold mN; rw [h3, nI_clamp (by omega)]
  have f3 : mP R' = mP R := by unfold mP; rw [hR _ (by omega) (by omega)]
  have f4 : ∀ j', j' < 5 → mY R' j' = mY R j' := fun j' e => by unfold mY; rw [hR _ (by omega) (by omega)]
  refine ⟨⟨by rw [f1, hR _ (by omega) (by omega)]; exact hM.1, fun j' hj' => by rw [f4 j' hj', hR _ (by omega) (by omega)]; exact hM.2.1 j' hj', by rw [f2]; exact ⟨h3, hn6⟩, by rw [f3, hR _ (by omega) (by omega)]; exact hM.2.2.2⟩, hL', by rw [f1, e1]; exact hn, ?_, fun j' hj' => ?_, ?_, ?_⟩
  · rw [hR 0 (by omega) (by omega), hR 1 (by omega) (by omega), hR 5 (by omega) (by omega), hR 6 (by omega) (by omega), hc _ (by omega)]
    exact hf
  · rw [e1] at hj'
    obtain ⟨g1, g2, g3⟩ := hl j' hj'
    have hlk' : LK i j' = LA i + 10 + 4 * j' := rfl
    have h8' := (hL.ln hj').2
    rw [f4 j' (by omega), e2 j']
    refine ⟨g1, fun c' hc' => ?_, fun y' hy' c' a b => ?_⟩
    · rw [hR _ (by omega) (by omega), hc _ (by omega)]
      exact g2 c' hc'
    · rw [hR _ (by omega) (by omega), hc _ (by omega)]
      exact g3 y' hy' c' a b
  · rw [f2, e3]
    exact ⟨rfl, hw'⟩
  · rw [f3, e5]
    refine ⟨hp.1, fun q hq' c' hc' => ?_⟩
    unfold psl
    rw [e4, hR _ (by omega) (by omega), hc _ (by omega)]
    exact hp.2 q hq' c' hc'
def insR (R : Nat → Int32) (p n : Nat) (x z : Int32) : Nat → Int32 := fun k => if k = 142 + 2 * p then x else if k = 143 + 2 * p then z else if 144 + 2 * p ≤ k ∧ k < 154 then R (k - 2) else if k = 3 then nI (n + 1) else R k
def rmR (R : Nat → Int32) (a n : Nat) : Nat → Int32 := fun k => if k = 3 then nI (n - 1) else if 142 + 2 * a ≤ k ∧ k < 152 then R (k + 2) else R k
theorem RM.ins {R : Nat → Int32} {M : Mem} {i n p : Nat} {x z : Int32} (h : RM R M i) (hn : n = nWn M i) (h6 : n < 6) (hp : p = insPos (M.1 (LA i + 3)) x n) : RM (insR R p n x z) (insM i n x z M) i := by
  have hpn : p ≤ n := by rw [hp]; exact insPos_le _ _ _
  have hw := h.2.2.2.2.2.1.2
  refine h.win (n' := n + 1) (fun k a b => ?_) (fun k hk => insM_cell hk) (by omega) ?_ (by unfold insM; exact up_same _ _ _ _) (fun w hw' c hc => ?_) (ins_LW h.2.1 h6)
  · unfold insR
    rw [if_neg (by omega), if_neg (by omega), if_neg (by omega), if_neg a]
  · unfold insR
    rw [if_neg (by omega), if_neg (by omega), if_neg (by omega), if_pos rfl]
  · have hcell : (insM i n x z M).1 (LA i + 3 + c) = insRow (M.1 (LA i + 3 + c)) n p (if c = 0 then x else z) := by
      unfold insM
      rw [← hp, up_cell _ _ _ (by omega)]
      rcases (by omega : c = 0 ∨ c = 1) with rfl | rfl
      · rw [setRow_cell _ _ (by omega), setRow_same]; rfl
      · rw [show LA i + 3 + 1 = LA i + 4 from rfl, setRow_same]; rfl
    rw [hcell]
    unfold insRow shR
    by_cases e : w = p
    · rw [if_pos e, e]
      unfold insR
      rcases (by omega : c = 0 ∨ c = 1) with rfl | rfl
      · rw [if_pos (show 142 + 2 * p + 0 = 142 + 2 * p by omega)]; rfl
      · rw [if_neg (by omega), if_pos (by omega)]; rfl
    · rw [if_neg e]
      by_cases e2 : p < w
      · rw [if_pos ⟨e2, by omega⟩, ← hw (w - 1) (by omega) c hc]
        unfold insR
        rw [if_neg (by omega), if_neg (by omega), if_pos (by omega)]
        exact congrArg R (by omega)
      · rw [if_neg (by omega), ← hw w (by omega) c hc]
        unfold insR
        rw [if_neg (by omega), if_neg (by omega), if_neg (by omega), if_neg (by omega)]
theorem RM.rm {R : Nat → Int32} {M : Mem} {i n a : Nat} (h : RM R M i) (hn : n = nWn M i) (ha : a < n) : RM (rmR R a n) (rmM i n a M) i := by
  have h6 : n ≤ 6 := by rw [hn]; exact h.2.1.wr.2
  have hw := h.2.2.2.2.2.1.2
  refine h.win (n' := n - 1) (fun k b c => ?_) (fun k hk => rmM_cell hk) (by omega) ?_ (by unfold rmM; rw [setRow_cell _ _ (by omega), setRow_cell _ _ (by omega), up_same]) (fun w hw' c hc => ?_) (rm_LW h.2.1 h6)
  · unfold rmR
    rw [if_neg b, if_neg (by omega)]
  · unfold rmR
    rw [if_pos rfl]
  · have hcell : (rmM i n a M).1 (LA i + 3 + c) = rmRow (M.1 (LA i + 3 + c)) a (n - 1) := by
      unfold rmM
      rcases (by omega : c = 0 ∨ c = 1) with rfl | rfl
      · rw [setRow_cell _ _ (by omega), setRow_same]
      · rw [show LA i + 3 + 1 = LA i + 4 from rfl, setRow_same]
    rw [hcell]
    unfold rmRow rmR
    rw [if_neg (by omega)]
    by_cases e : a ≤ w
    · rw [if_pos (by omega), if_pos ⟨e, hw'⟩, ← hw (w + 1) (by omega) c hc]
      exact congrArg R (by omega)
    · rw [if_neg (by omega), if_neg (by omega)]
      exact hw w (by omega) c hc
/-- the windows' firsts ascend, and none ends before it begins -/
def WS (F L : Nat → Int32) (n : Nat) : Prop := (∀ w, w < n → F w ≤ L w) ∧ ∀ a b, a < b → b < n → F a < F b
def cntLt (F : Nat → Int32) (x : Int32) : Nat → Nat | 0 => 0 | n + 1 => cntLt F x n + (if F n < x then 1 else 0)
theorem cntLt_all {F : Nat → Int32} {x : Int32} : ∀ n, (∀ w, w < n → F w < x) → cntLt F x n = n
  | 0, _ => rfl
  | n + 1, h => by
    show cntLt F x n + (if F n < x then 1 else 0) = n + 1
    rw [cntLt_all n (fun w hw => h w (by omega)), if_pos (h n (by omega))]
theorem cntLt_ins {F : Nat → Int32} {x : Int32} : ∀ n, (∀ a b, a < b → b < n → F a < F b) → (∀ w, w < n → F w ≠ x) → cntLt F x n = insPos F x n
  | 0, _, _ => rfl
  | n + 1, hs, hne => by
    show cntLt F x n + (if F n < x then 1 else 0) = (if x < F n then insPos F x n else n + 1)
    by_cases h : F n < x
    · rw [if_pos h, if_neg (fun z => Int32.lt_irrefl (Int32.lt_of_lt_of_le z (Int32.le_of_lt h))), cntLt_all n (fun w hw => Int32.lt_of_lt_of_le (hs w n hw (by omega)) (Int32.le_of_lt h))]
    · rw [if_neg h, if_pos (Int32.not_le.mp (fun z => hne n (by omega) (Int32.le_antisymm z (Int32.not_lt.mp h)))), Nat.add_zero]
      exact cntLt_ins n (fun a b h1 h2 => hs a b h1 (by omega)) (fun w hw => hne w (by omega))
theorem cntLt_le {F : Nat → Int32} {x : Int32} : ∀ n, cntLt F x n ≤ n
  | 0 => Nat.le_refl 0
  | n + 1 => by have := cntLt_le (F := F) (x := x) n; show cntLt F x n + (if F n < x then 1 else 0) ≤ n + 1; split <;> omega
