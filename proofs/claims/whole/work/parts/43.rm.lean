/-! the reference's row beside the class's landscape -/
def psl (M : Mem) (i q : Nat) : Nat := (wOf M i + 15 - q) % 16
/-- the row R says of the landscape i of M the same -/
def RM (R : Nat → Int32) (M : Mem) (i : Nat) : Prop := MW R ∧ LW M i ∧ mL R = nLk M i ∧ (R 0 = M.1 (LA i) 3 ∧ R 1 = M.1 (LA i) 2 ∧ R 5 = M.1 (LA i) 4 ∧ R 6 = M.1 (LA i) 5) ∧
  (∀ j, j < nLk M i → mY R j = nLy M i j ∧ (∀ c, c < 2 → R (7 + c + 27 * j) = M.1 (LK i j) (4 + c)) ∧ ∀ y, y < nLy M i j → ∀ c, 1 ≤ c → c ≤ 3 → R (9 + c + 27 * j + 3 * y) = M.1 (LK i j + c) y) ∧
  (mN R = nWn M i ∧ ∀ w, w < nWn M i → ∀ c, c < 2 → R (142 + 2 * w + c) = M.1 (LA i + 3 + c) w) ∧
  (mP R = cOf M i ∧ ∀ q, q < cOf M i → ∀ c, c < 4 → R (154 + 4 * q + c) = M.1 (LA i + 6 + c) (psl M i q))
theorem up_nf (m : Mem) {k f : Nat} (v : Int32) {q j : Nat} (h : q ≠ k ∨ j ≠ f) : (up m k f v).1 q j = m.1 q j := if_neg (fun z => h.elim (fun a => a z.1) (fun a => a z.2))
theorem upd_at (R : Nat → Int32) (k : Nat) (v : Int32) : upd R k v k = v := if_pos rfl
theorem upd_ne (R : Nat → Int32) {k q : Nat} (v : Int32) (h : q ≠ k) : upd R k v q = R q := if_neg h
/-- what LW reads -/
def Leq (M M' : Mem) (i : Nat) : Prop := M'.1 (LA i) 1 = M.1 (LA i) 1 ∧ M'.1 (LA i + 2) 2 = M.1 (LA i + 2) 2 ∧ M'.1 (LA i + 5) = M.1 (LA i + 5) ∧ M'.1 (LA i + 6) = M.1 (LA i + 6) ∧ ∀ j, j < 5 → M'.1 (LK i j) 3 = M.1 (LK i j) 3
theorem Leq.keep {M M' : Mem} {i : Nat} (h : Leq M M' i) (hL : LW M i) : LW M' i ∧ nLk M' i = nLk M i ∧ (∀ j, j < 5 → nLy M' i j = nLy M i j) ∧ nWn M' i = nWn M i ∧ wOf M' i = wOf M i ∧ cOf M' i = cOf M i := by
  obtain ⟨h1, h2, h3, h4, h5⟩ := h
  have e1 : nLk M' i = nLk M i := by unfold nLk; rw [h1]
  have e2 : ∀ j, j < 5 → nLy M' i j = nLy M i j := fun j hj => by unfold nLy; rw [h5 j hj]
  have e3 : nWn M' i = nWn M i := by unfold nWn; rw [h2]
  have e4 : wOf M' i = wOf M i := by unfold wOf; rw [h3]
  have e5 : cOf M' i = cOf M i := by unfold cOf; rw [h3]
  refine ⟨⟨⟨by rw [h1, e1]; exact hL.1.1, by rw [e1]; exact hL.1.2⟩, fun j hj => ?_, ?_, ?_, fun y hy => by rw [h4]; exact hL.2.2.2.2 y hy⟩, e1, e2, e3, e4, e5⟩
  · rw [e1] at hj
    have h5' := hL.1.2
    rw [e2 j (by omega)]
    exact ⟨by rw [h5 j (by omega)]; exact (hL.2.1 j hj).1, (hL.2.1 j hj).2⟩
  · rw [e3]; exact ⟨by rw [h2]; exact hL.2.2.1.1, hL.2.2.1.2⟩
  · rw [e4, e5]; unfold PR; rw [h3]; exact hL.2.2.2.1
theorem MW.keep {R R' : Nat → Int32} (h : MW R) (h2 : R' 2 = R 2) (h3 : R' 3 = R 3) (h4 : R' 4 = R 4) (h9 : ∀ j, j < 5 → R' (9 + 27 * j) = R (9 + 27 * j)) : MW R' ∧ mL R' = mL R ∧ mN R' = mN R ∧ mP R' = mP R ∧ ∀ j, j < 5 → mY R' j = mY R j := by
  have e1 : mL R' = mL R := by unfold mL; rw [h2]
  have e2 : mN R' = mN R := by unfold mN; rw [h3]
  have e3 : mP R' = mP R := by unfold mP; rw [h4]
  have e4 : ∀ j, j < 5 → mY R' j = mY R j := fun j hj => by unfold mY; rw [h9 j hj]
  exact ⟨⟨by rw [e1, h2]; exact h.1, fun j hj => by rw [e4 j hj, h9 j hj]; exact h.2.1 j hj, by rw [e2, h3]; exact h.2.2.1, by rw [e3, h4]; exact h.2.2.2⟩, e1, e2, e3, e4⟩
/-- a value of a layer written on both sides -/
theorem RM.lay {R : Nat → Int32} {M : Mem} {i j y c : Nat} {v : Int32} (h : RM R M i) (hj : j < nLk M i) (hy : y < 8) (hc1 : 1 ≤ c) (hc3 : c ≤ 3) : RM (upd R (9 + c + 27 * j + 3 * y) v) (up M (LK i j + c) y v) i := by
  obtain ⟨hM, hL, hn, hf, hl, hw, hp⟩ := h
  have h5 := hL.nl5
  have hg := LK_ge i j
  have hlk : LK i j = LA i + 10 + 4 * j := rfl
  have hq : Leq M (up M (LK i j + c) y v) i := ⟨by rw [up_cell _ _ _ (by omega)], by rw [up_cell _ _ _ (by omega)], up_cell _ _ _ (by omega), up_cell _ _ _ (by omega), fun j' _ => by have : LK i j' = LA i + 10 + 4 * j' := rfl; rw [up_cell _ _ _ (by omega)]⟩
  obtain ⟨hL', e1, e2, e3, e4, e5⟩ := hq.keep hL
  have hR : ∀ k, k ≠ 9 + c + 27 * j + 3 * y → upd R (9 + c + 27 * j + 3 * y) v k = R k := fun k hk => upd_ne _ _ hk
  obtain ⟨hM', f1, f2, f3, f4⟩ := hM.keep (R' := upd R (9 + c + 27 * j + 3 * y) v) (hR _ (by omega)) (hR _ (by omega)) (hR _ (by omega)) (fun j' _ => hR _ (by omega))
  refine ⟨hM', hL', by rw [f1, e1]; exact hn, ?_, fun j' hj' => ?_, ?_, ?_⟩
  · rw [hR _ (by omega), hR _ (by omega), hR _ (by omega), hR _ (by omega), up_cell _ _ _ (by omega)]
    exact hf
  · rw [e1] at hj'
    obtain ⟨g1, g2, g3⟩ := hl j' hj'
    have hlk' : LK i j' = LA i + 10 + 4 * j' := rfl
    rw [f4 j' (by omega), e2 j' (by omega)]
    refine ⟨g1, fun c' hc' => ?_, fun y' hy' c' a b => ?_⟩
    · rw [hR _ (by omega), up_cell _ _ _ (by omega)]
      exact g2 c' hc'
    · have h8 := (hL.2.1 j' hj').2
      by_cases e : j' = j ∧ c' = c ∧ y' = y
      · obtain ⟨rfl, rfl, rfl⟩ := e
        rw [upd_at, up_same]
      · rw [hR _ (by omega)]
        by_cases e2 : j' = j ∧ c' = c
        · obtain ⟨rfl, rfl⟩ := e2
          rw [up_slot _ _ _ (by omega)]
          exact g3 y' hy' c' a b
        · rw [up_cell _ _ _ (by omega)]
          exact g3 y' hy' c' a b
  · rw [f2, e3]
    have h6 := hL.wr.2
    refine ⟨hw.1, fun w hw' c' hc' => ?_⟩
    rw [hR _ (by omega), up_cell _ _ _ (by omega)]
    exact hw.2 w hw' c' hc'
  · rw [f3, e5]
    refine ⟨hp.1, fun q hq' c' hc' => ?_⟩
    unfold psl
    rw [e4, hR _ (by omega), up_cell _ _ _ (by omega)]
    exact hp.2 q hq' c' hc'
/-- a lake's cracks written on both sides -/
theorem RM.crk {R : Nat → Int32} {M : Mem} {i j : Nat} {v : Int32} (h : RM R M i) (hj : j < nLk M i) : RM (upd R (8 + 27 * j) v) (up M (LK i j) 5 v) i := by
  obtain ⟨hM, hL, hn, hf, hl, hw, hp⟩ := h
  have h5 := hL.nl5
  have hg := LK_ge i j
  have hlk : LK i j = LA i + 10 + 4 * j := rfl
  have hq : Leq M (up M (LK i j) 5 v) i := ⟨by rw [up_cell _ _ _ (by omega)], by rw [up_cell _ _ _ (by omega)], up_cell _ _ _ (by omega), up_cell _ _ _ (by omega), fun j' _ => up_nf _ _ (Or.inr (by decide))⟩
  obtain ⟨hL', e1, e2, e3, e4, e5⟩ := hq.keep hL
  have hR : ∀ k, k ≠ 8 + 27 * j → upd R (8 + 27 * j) v k = R k := fun k hk => upd_ne _ _ hk
  obtain ⟨hM', f1, f2, f3, f4⟩ := hM.keep (R' := upd R (8 + 27 * j) v) (hR _ (by omega)) (hR _ (by omega)) (hR _ (by omega)) (fun j' _ => hR _ (by omega))
  refine ⟨hM', hL', by rw [f1, e1]; exact hn, ?_, fun j' hj' => ?_, ?_, ?_⟩
  · rw [hR _ (by omega), hR _ (by omega), hR _ (by omega), hR _ (by omega), up_cell _ _ _ (by omega)]
    exact hf
  · rw [e1] at hj'
    obtain ⟨g1, g2, g3⟩ := hl j' hj'
    have hlk' : LK i j' = LA i + 10 + 4 * j' := rfl
    rw [f4 j' (by omega), e2 j' (by omega)]
    refine ⟨g1, fun c' hc' => ?_, fun y' hy' c' a b => ?_⟩
    · by_cases e : j' = j ∧ c' = 1
      · obtain ⟨rfl, rfl⟩ := e
        rw [show 7 + 1 + 27 * j' = 8 + 27 * j' by omega, upd_at, up_same]
      · rw [hR _ (by omega)]
        by_cases e2 : j' = j
        · subst e2
          rw [up_slot _ _ _ (by omega)]
          exact g2 c' hc'
        · rw [up_cell _ _ _ (by omega)]
          exact g2 c' hc'
    · have h8 := (hL.2.1 j' hj').2
      rw [hR _ (by omega), up_cell _ _ _ (by omega)]
      exact g3 y' hy' c' a b
  · rw [f2, e3]
    have h6 := hL.wr.2
    refine ⟨hw.1, fun w hw' c' hc' => ?_⟩
    rw [hR _ (by omega), up_cell _ _ _ (by omega)]
    exact hw.2 w hw' c' hc'
  · rw [f3, e5]
    refine ⟨hp.1, fun q hq' c' hc' => ?_⟩
    unfold psl
    rw [e4, hR _ (by omega), up_cell _ _ _ (by omega)]
    exact hp.2 q hq' c' hc'
/-- a number of the landscape written on both sides: hour, air, frozen, thawed -/
theorem RM.fld {R : Nat → Int32} {M : Mem} {i a f : Nat} {v : Int32} (h : RM R M i) (ha : (a = 0 ∧ f = 3) ∨ (a = 1 ∧ f = 2) ∨ (a = 5 ∧ f = 4) ∨ (a = 6 ∧ f = 5)) : RM (upd R a v) (up M (LA i) f v) i := by
  obtain ⟨hM, hL, hn, hf, hl, hw, hp⟩ := h
  have h5 := hL.nl5
  have hq : Leq M (up M (LA i) f v) i := ⟨by rw [up_slot _ _ _ (by omega)], by rw [up_cell _ _ _ (by omega)], up_cell _ _ _ (by omega), up_cell _ _ _ (by omega), fun j' _ => by have := LK_ge i j'; rw [up_cell _ _ _ (by omega)]⟩
  obtain ⟨hL', e1, e2, e3, e4, e5⟩ := hq.keep hL
  have hR : ∀ k, k ≠ a → upd R a v k = R k := fun k hk => upd_ne _ _ hk
  obtain ⟨hM', f1, f2, f3, f4⟩ := hM.keep (R' := upd R a v) (hR _ (by omega)) (hR _ (by omega)) (hR _ (by omega)) (fun j' _ => hR _ (by omega))
  refine ⟨hM', hL', by rw [f1, e1]; exact hn, ?_, fun j' hj' => ?_, ?_, ?_⟩
  · rcases ha with ⟨rfl, rfl⟩ | ⟨rfl, rfl⟩ | ⟨rfl, rfl⟩ | ⟨rfl, rfl⟩
    · rw [upd_at, up_same, hR 1 (by omega), hR 5 (by omega), hR 6 (by omega), up_slot _ _ _ (by omega), up_slot _ _ _ (by omega), up_slot _ _ _ (by omega)]
      exact ⟨rfl, hf.2⟩
    · rw [upd_at, up_same, hR 0 (by omega), hR 5 (by omega), hR 6 (by omega), up_slot _ _ _ (by omega), up_slot _ _ _ (by omega), up_slot _ _ _ (by omega)]
      exact ⟨hf.1, rfl, hf.2.2⟩
    · rw [upd_at, up_same, hR 0 (by omega), hR 1 (by omega), hR 6 (by omega), up_slot _ _ _ (by omega), up_slot _ _ _ (by omega), up_slot _ _ _ (by omega)]
      exact ⟨hf.1, hf.2.1, rfl, hf.2.2.2⟩
    · rw [upd_at, up_same, hR 0 (by omega), hR 1 (by omega), hR 5 (by omega), up_slot _ _ _ (by omega), up_slot _ _ _ (by omega), up_slot _ _ _ (by omega)]
      exact ⟨hf.1, hf.2.1, hf.2.2.1, rfl⟩
  · rw [e1] at hj'
    obtain ⟨g1, g2, g3⟩ := hl j' hj'
    have hg' := LK_ge i j'
    rw [f4 j' (by omega), e2 j' (by omega)]
    refine ⟨g1, fun c' hc' => ?_, fun y' hy' c' a' b => ?_⟩
    · rw [hR _ (by omega), up_cell _ _ _ (by omega)]
      exact g2 c' hc'
    · rw [hR _ (by omega), up_cell _ _ _ (by omega)]
      exact g3 y' hy' c' a' b
  · rw [f2, e3]
    refine ⟨hw.1, fun w hw' c' hc' => ?_⟩
    rw [hR _ (by omega), up_cell _ _ _ (by omega)]
    exact hw.2 w hw' c' hc'
  · rw [f3, e5]
    refine ⟨hp.1, fun q hq' c' hc' => ?_⟩
    unfold psl
    rw [e4, hR _ (by omega), up_cell _ _ _ (by omega)]
    exact hp.2 q hq' c' hc'
/-- a peal recorded -/
def ringR (R : Nat → Int32) (kd lk pt hr : Int32) : Nat → Int32 := fun k => if k = 154 then kd else if k = 155 then lk else if k = 156 then pt else if k = 157 then hr else if 158 ≤ k ∧ k < 218 then R (k - 4) else if k = 4 then nI (min (mP R + 1) 16) else R k
theorem ringR_ne {R : Nat → Int32} {kd lk pt hr : Int32} {k : Nat} (h : k < 154) (h4 : k ≠ 4) : ringR R kd lk pt hr k = R k := by
  unfold ringR
  rw [if_neg (by omega), if_neg (by omega), if_neg (by omega), if_neg (by omega), if_neg (by omega), if_neg h4]
theorem RM.rec {R : Nat → Int32} {M : Mem} {i : Nat} {kd lk pt hr : Int32} (h : RM R M i) (hk : fits .char (.int kd) = true) : RM (ringR R kd lk pt hr) (recM i (wOf M i) (cOf M i) kd lk pt hr M) i := by
  obtain ⟨hM, hL, hn, hf, hl, hw, hp⟩ := h
  have h5 := hL.nl5
  have h16 := hL.pr.2.2.2
  have hw16 := hL.pr.2.1
  obtain ⟨hL', e1⟩ := rec_LW (w := wOf M i) (cn := cOf M i) (lk := lk) (pt := pt) (hr := hr) hL hk
  have hc : ∀ k, (k < LA i + 5 ∨ LA i + 9 < k) → (recM i (wOf M i) (cOf M i) kd lk pt hr M).1 k = M.1 k := fun k hk => recM_cell hk
  have e2 : ∀ j, nLy (recM i (wOf M i) (cOf M i) kd lk pt hr M) i j = nLy M i j := fun j => by have := LK_ge i j; unfold nLy; rw [hc _ (by omega)]
  have e3 : nWn (recM i (wOf M i) (cOf M i) kd lk pt hr M) i = nWn M i := by unfold nWn; rw [hc _ (by omega)]
  have e4 : wOf (recM i (wOf M i) (cOf M i) kd lk pt hr M) i = (wOf M i + 1) % 16 := by
    show ((recM i (wOf M i) (cOf M i) kd lk pt hr M).1 (LA i + 5) 5).toNatClampNeg = _
    unfold recM
    rw [up_slot _ _ _ (by decide), up_same, nI_clamp (by omega)]
  have e5 : cOf (recM i (wOf M i) (cOf M i) kd lk pt hr M) i = min (cOf M i + 1) 16 := by
    show ((recM i (wOf M i) (cOf M i) kd lk pt hr M).1 (LA i + 5) 4).toNatClampNeg = _
    unfold recM
    rw [up_same, nI_clamp (by omega)]
  have hR : ∀ k, k < 154 → k ≠ 4 → ringR R kd lk pt hr k = R k := fun k a b => ringR_ne a b
  have f1 : mL (ringR R kd lk pt hr) = mL R := by unfold mL; rw [hR 2 (by omega) (by omega)]
  have f2 : mN (ringR R kd lk pt hr) = mN R := by unfold mN; rw [hR 3 (by omega) (by omega)]
  have f3 : ringR R kd lk pt hr 4 = nI (min (mP R + 1) 16) := rfl
  have f3' : mP (ringR R kd lk pt hr) = min (mP R + 1) 16 := by unfold mP; rw [f3, nI_clamp (by omega)]; rfl
  have f4 : ∀ j, j < 5 → mY (ringR R kd lk pt hr) j = mY R j := fun j hj => by unfold mY; rw [hR _ (by omega) (by omega)]
  refine ⟨⟨by rw [f1, hR 2 (by omega) (by omega)]; exact hM.1, fun j hj => by rw [f4 j hj, hR _ (by omega) (by omega)]; exact hM.2.1 j hj, by rw [f2, hR 3 (by omega) (by omega)]; exact hM.2.2.1, by rw [f3']; exact ⟨f3, by omega⟩⟩, hL', by rw [f1, e1]; exact hn, ?_, fun j' hj' => ?_, ?_, ?_⟩
  · rw [hR 0 (by omega) (by omega), hR 1 (by omega) (by omega), hR 5 (by omega) (by omega), hR 6 (by omega) (by omega), hc _ (by omega)]
    exact hf
  · rw [e1] at hj'
    obtain ⟨g1, g2, g3⟩ := hl j' hj'
    have hg' := LK_ge i j'
    have h8 := (hL.2.1 j' hj').2
    rw [f4 j' (by omega), e2 j']
    refine ⟨g1, fun c' hc' => ?_, fun y' hy' c' a' b => ?_⟩
    · rw [hR _ (by omega) (by omega), hc _ (by omega)]
      exact g2 c' hc'
    · rw [hR _ (by omega) (by omega), hc _ (by omega)]
      exact g3 y' hy' c' a' b
  · rw [f2, e3]
    have h6 := hL.wr.2
    refine ⟨hw.1, fun w hw' c' hc' => ?_⟩
    rw [hR _ (by omega) (by omega), hc _ (by omega)]
    exact hw.2 w hw' c' hc'
  · rw [f3', e5]
    refine ⟨by rw [hp.1], fun q hq' c' hc' => ?_⟩
    unfold psl
    rw [e4]
    by_cases q0 : q = 0
    · subst q0
      rw [show ((wOf M i + 1) % 16 + 15 - 0) % 16 = wOf M i by omega]
      rcases (by omega : c' = 0 ∨ c' = 1 ∨ c' = 2 ∨ c' = 3) with rfl | rfl | rfl | rfl
      · show kd = _
        unfold recM
        rw [up_cell _ _ _ (by omega), up_cell _ _ _ (by omega), up_cell _ _ _ (by omega), up_cell _ _ _ (by omega), up_cell _ _ _ (by omega), up_same]
      · show lk = (recM _ _ _ _ _ _ _ _).1 (LA i + 7) _
        unfold recM
        rw [up_cell _ _ _ (by omega), up_cell _ _ _ (by omega), up_cell _ _ _ (by omega), up_cell _ _ _ (by omega), up_same]
      · show pt = (recM _ _ _ _ _ _ _ _).1 (LA i + 8) _
        unfold recM
        rw [up_cell _ _ _ (by omega), up_cell _ _ _ (by omega), up_cell _ _ _ (by omega), up_same]
      · show hr = (recM _ _ _ _ _ _ _ _).1 (LA i + 9) _
        unfold recM
        rw [up_cell _ _ _ (by omega), up_cell _ _ _ (by omega), up_same]
    · have hold := hp.2 (q - 1) (by omega) c' hc'
      unfold psl at hold
      rw [show ((wOf M i + 1) % 16 + 15 - q) % 16 = (wOf M i + 15 - (q - 1)) % 16 by omega]
      have hRq : ringR R kd lk pt hr (154 + 4 * q + c') = R (154 + 4 * (q - 1) + c') := by
        unfold ringR
        rw [if_neg (by omega), if_neg (by omega), if_neg (by omega), if_neg (by omega), if_pos (by omega)]
        congr 1; omega
      rw [hRq, hold]
      have hne : (wOf M i + 15 - (q - 1)) % 16 ≠ wOf M i := by omega
      unfold recM
      rcases (by omega : c' = 0 ∨ c' = 1 ∨ c' = 2 ∨ c' = 3) with rfl | rfl | rfl | rfl
      · rw [up_cell _ _ _ (by omega), up_cell _ _ _ (by omega), up_cell _ _ _ (by omega), up_cell _ _ _ (by omega), up_cell _ _ _ (by omega), up_slot _ _ _ hne]
      · rw [up_cell _ _ _ (by omega), up_cell _ _ _ (by omega), up_cell _ _ _ (by omega), up_cell _ _ _ (by omega), show LA i + 6 + 1 = LA i + 7 by omega, up_slot _ _ _ hne, up_cell _ _ _ (by omega)]
      · rw [up_cell _ _ _ (by omega), up_cell _ _ _ (by omega), up_cell _ _ _ (by omega), show LA i + 6 + 2 = LA i + 8 by omega, up_slot _ _ _ hne, up_cell _ _ _ (by omega), up_cell _ _ _ (by omega)]
      · rw [up_cell _ _ _ (by omega), up_cell _ _ _ (by omega), show LA i + 6 + 3 = LA i + 9 by omega, up_slot _ _ _ hne, up_cell _ _ _ (by omega), up_cell _ _ _ (by omega), up_cell _ _ _ (by omega)]
