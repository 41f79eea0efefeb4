/-! the row beside the landscape: a layer lost, windows asked; the layers' values keep their bounds -/
def shD (R : Nat → Int32) (j : Nat) : Nat → Int32 := fun k => if 10 + 27 * j ≤ k ∧ k < 31 + 27 * j then R (k + 3) else R k
theorem RM.drop {R : Nat → Int32} {M : Mem} {i j : Nat} (h : RM R M i) (hj : j < nLk M i) (h0 : 0 < nLy M i j) : RM (upd (shD R j) (9 + 27 * j) (nI (nLy M i j - 1))) (dropM i j (nLy M i j) M) i := by
  obtain ⟨hM, hL, hn, hf, hl, hw, hp⟩ := h
  have h5 := hL.nl5
  have hg := LK_ge i j
  have hlk : LK i j = LA i + 10 + 4 * j := rfl
  have h8 := (hL.ln hj).2
  have hc : ∀ k, (k < LK i j ∨ LK i j + 3 < k) → (dropM i j (nLy M i j) M).1 k = M.1 k := fun k hk => dropM_cell hk
  have hs : ∀ f, f ≠ 3 → (dropM i j (nLy M i j) M).1 (LK i j) f = M.1 (LK i j) f := fun f hf => by
    rw [dropM_eq, set3_o _ _ _ _ _ (by omega), up_slot _ _ _ hf]
  have h3 : (dropM i j (nLy M i j) M).1 (LK i j) 3 = nI (nLy M i j - 1) := by
    rw [dropM_eq, set3_o _ _ _ _ _ (by omega), up_same]
  obtain ⟨hL', e1⟩ : LW (dropM i j (nLy M i j) M) i ∧ nLk (dropM i j (nLy M i j) M) i = nLk M i := by
    refine hL.lake (j := j) (by rw [hc _ (by omega)]) (hc _ (by omega)) (fun j' hj' e => ?_) ⟨nLy M i j - 1, h3, by omega⟩ ⟨_, _, hL.pr.row (hc _ (by omega))⟩ (fun y hy => by rw [hc _ (by omega)]; exact hL.kf y hy)
    have hlk' : LK i j' = LA i + 10 + 4 * j' := rfl
    exact hc _ (by omega)
  have e2 : ∀ j', j' ≠ j → nLy (dropM i j (nLy M i j) M) i j' = nLy M i j' := fun j' e => by have hlk' : LK i j' = LA i + 10 + 4 * j' := rfl; show ((dropM i j (nLy M i j) M).1 (LK i j') 3).toNatClampNeg = (M.1 (LK i j') 3).toNatClampNeg; rw [hc _ (by omega)]
  have e2j : nLy (dropM i j (nLy M i j) M) i j = nLy M i j - 1 := by
    show ((dropM i j (nLy M i j) M).1 (LK i j) 3).toNatClampNeg = _
    rw [h3, nI_clamp (by omega)]
  have e3 : nWn (dropM i j (nLy M i j) M) i = nWn M i := by unfold nWn; rw [hc _ (by omega)]
  have e4 : wOf (dropM i j (nLy M i j) M) i = wOf M i := by unfold wOf; rw [hc _ (by omega)]
  have e5 : cOf (dropM i j (nLy M i j) M) i = cOf M i := by unfold cOf; rw [hc _ (by omega)]
  have hR : ∀ k, k < 9 + 27 * j ∨ 31 + 27 * j ≤ k → upd (shD R j) (9 + 27 * j) (nI (nLy M i j - 1)) k = R k := fun k hk => by
    rw [upd_ne _ _ (by omega)]; unfold shD; rw [if_neg (by omega)]
  have f1 : mL (upd (shD R j) (9 + 27 * j) (nI (nLy M i j - 1))) = mL R := by unfold mL; rw [hR _ (by omega)]
  have f2 : mN (upd (shD R j) (9 + 27 * j) (nI (nLy M i j - 1))) = mN R := by unfold mN; rw [hR _ (by omega)]
  have f3 : mP (upd (shD R j) (9 + 27 * j) (nI (nLy M i j - 1))) = mP R := by unfold mP; rw [hR _ (by omega)]
  have f4 : ∀ j', j' ≠ j → mY (upd (shD R j) (9 + 27 * j) (nI (nLy M i j - 1))) j' = mY R j' := fun j' e => by unfold mY; rw [hR _ (by omega)]
  have f4j : mY (upd (shD R j) (9 + 27 * j) (nI (nLy M i j - 1))) j = nLy M i j - 1 := by unfold mY; rw [upd_at, nI_clamp (by omega)]
  refine ⟨⟨by rw [f1, hR _ (by omega)]; exact hM.1, fun j' hj' => ?_, by rw [f2, hR _ (by omega)]; exact hM.2.2.1, by rw [f3, hR _ (by omega)]; exact hM.2.2.2⟩, hL', by rw [f1, e1]; exact hn, ?_, fun j' hj' => ?_, ?_, ?_⟩
  · by_cases e : j' = j
    · subst e; rw [f4j, upd_at]; exact ⟨rfl, by omega⟩
    · rw [f4 j' e, hR _ (by omega)]; exact hM.2.1 j' hj'
  · rw [hR _ (by omega), hR _ (by omega), hR _ (by omega), hR _ (by omega), hc _ (by omega)]
    exact hf
  · rw [e1] at hj'
    obtain ⟨g1, g2, g3⟩ := hl j' hj'
    have hlk' : LK i j' = LA i + 10 + 4 * j' := rfl
    have h8' := (hL.ln hj').2
    by_cases e : j' = j
    · subst e
      rw [f4j, e2j]
      refine ⟨rfl, fun c' hc' => ?_, fun y' hy' c' a b => ?_⟩
      · rw [hR _ (by omega), hs _ (by omega)]
        exact g2 c' hc'
      · rw [upd_ne _ _ (by omega)]
        have hsh : shD R j' (9 + c' + 27 * j' + 3 * y') = R (9 + c' + 27 * j' + 3 * (y' + 1)) := by
          unfold shD
          rw [if_pos (by omega)]
          congr 1
        rw [hsh, g3 (y' + 1) (by omega) c' a b, dropM_eq]
        rcases (by omega : c' = 1 ∨ c' = 2 ∨ c' = 3) with rfl | rfl | rfl
        · rw [set3_1]; exact (if_pos hy').symm
        · rw [set3_2]; exact (if_pos hy').symm
        · rw [set3_3]; exact (if_pos hy').symm
    · rw [f4 j' e, e2 j' e]
      refine ⟨g1, fun c' hc' => ?_, fun y' hy' c' a b => ?_⟩
      · rw [hR _ (by omega), hc _ (by omega)]
        exact g2 c' hc'
      · rw [hR _ (by omega), hc _ (by omega)]
        exact g3 y' hy' c' a b
  · rw [f2, e3]
    have h6 := hL.wr.2
    refine ⟨hw.1, fun w hw' c' hc' => ?_⟩
    rw [hR _ (by omega), hc _ (by omega)]
    exact hw.2 w hw' c' hc'
  · rw [f3, e5]
    refine ⟨hp.1, fun q hq' c' hc' => ?_⟩
    unfold psl
    rw [e4, hR _ (by omega), hc _ (by omega)]
    exact hp.2 q hq' c' hc'
theorem opB_meet {R : Nat → Int32} {F L : Nat → Int32} {h : Int32} : ∀ n, (∀ w, w < n → R (142 + 2 * w) = F w ∧ R (143 + 2 * w) = L w) → opB R h n = meetB F L h h n
  | 0, _ => rfl
  | n + 1, hw => by
    show (opB R h n || (decide (R (142 + 2 * n) ≤ h) && decide (h ≤ R (143 + 2 * n)))) = (meetB F L h h n || (decide (h ≤ L n) && decide (F n ≤ h)))
    rw [opB_meet n (fun w z => hw w (by omega)), (hw n (by omega)).1, (hw n (by omega)).2, Bool.and_comm]
theorem RM.op {R : Nat → Int32} {M : Mem} {i : Nat} (h : RM R M i) (x : Int32) : opB R x (mN R) = meetB (M.1 (LA i + 3)) (M.1 (LA i + 4)) x x (nWn M i) := by
  obtain ⟨hM, hL, hn, hf, hl, hw, hp⟩ := h
  rw [hw.1]
  refine opB_meet _ (fun w hw' => ⟨hw.2 w hw' 0 (by omega), ?_⟩)
  rw [show 143 + 2 * w = 142 + 2 * w + 1 by omega]
  exact hw.2 w hw' 1 (by omega)
theorem RM.push {R : Nat → Int32} {M : Mem} {i j z : Nat} (h : RM R M i) (hj : j < nLk M i) (hz : z < nLy M i j) : RM (upd R (9 + 3 + 27 * j + 3 * z) (R (9 + 3 + 27 * j + 3 * z) + 5)) (pushM i j (nLy M i j) (nI z) M) i := by
  have h8 := (h.2.1.ln hj).2
  have hv := (h.2.2.2.2.1 j hj).2.2 z hz 3 (by omega) (by omega)
  unfold pushM
  rw [if_pos ⟨nI_pos' (by omega), nI_lt hz (by omega)⟩, nI_clamp (by omega), hv]
  exact h.lay hj (by omega) (by omega) (by omega)
theorem upd_self {R : Nat → Int32} {k : Nat} : upd R k (R k + 0) = R := by
  funext y
  unfold upd
  split
  · rename_i e; rw [e, Int32.add_zero]
  · rfl
theorem pushM_no {i j N : Nat} {x : Int32} {m : Mem} (h : ¬ (0 ≤ x ∧ x < nI N)) : pushM i j N x m = m := if_neg h
/-! the layers' values -/
theorem off40 {x : Int32} (h1 : -40 ≤ x) (h2 : x ≤ 20) : ∃ k, k < 61 ∧ x = nI k - 40 := by
  have e1 : -40 ≤ x.toInt := Int32.le_iff_toInt_le.mp h1
  have e2 : x.toInt ≤ 20 := Int32.le_iff_toInt_le.mp h2
  have h3 : (x + 40).toInt = x.toInt + 40 := by
    rw [Int32.toInt_add]
    exact Int.bmod_eq_of_le (by show -(2 ^ 31 : Int) ≤ x.toInt + 40; omega) (by show x.toInt + 40 < _; omega)
  obtain ⟨j, hj, hj2⟩ := nI_of (x := x + 40) (by rw [Int32.lt_iff_toInt_lt, h3, Int32.toInt_zero]; omega)
  refine ⟨j, ?_, ?_⟩
  · have : (j : Int) = x.toInt + 40 := by rw [← h3, hj2, nI_toInt hj]
    omega
  · rw [← hj2]
    apply Int32.toBitVec_inj.mp
    simp
theorem avg_ge {a b : Int32} (ha1 : -40 ≤ a) (ha2 : a ≤ 20) (hb1 : -40 ≤ b) (hb2 : b ≤ 0) : -40 ≤ (a + b) / 2 := by
  have H : ∀ x : Fin 61, ∀ y : Fin 61, -40 ≤ ((nI x.1 - 40) + (nI y.1 - 40)) / 2 := by decide +kernel
  obtain ⟨x, hx, rfl⟩ := off40 ha1 ha2
  obtain ⟨y, hy, rfl⟩ := off40 hb1 (Int32.le_trans hb2 (by decide))
  exact H ⟨x, hx⟩ ⟨y, hy⟩
theorem inc_le0 {x : Int32} (h1 : -40 ≤ x) (h : x < 0) : -40 ≤ x + 1 ∧ x + 1 ≤ 0 := by
  have H : ∀ x : Fin 61, nI x.1 - 40 < 0 → -40 ≤ nI x.1 - 40 + 1 ∧ nI x.1 - 40 + 1 ≤ 0 := by decide +kernel
  obtain ⟨k, hk, rfl⟩ := off40 h1 (Int32.le_trans (Int32.le_of_lt h) (by decide))
  exact H ⟨k, hk⟩ h
theorem dec_ge {x t : Int32} (h1 : -40 ≤ x) (h2 : x ≤ 0) (ht : -40 ≤ t) (h : t < x) : -40 ≤ x - 1 ∧ x - 1 ≤ 0 := by
  have H : ∀ x : Fin 61, nI x.1 - 40 ≤ 0 → -40 < nI x.1 - 40 → -40 ≤ nI x.1 - 40 - 1 ∧ nI x.1 - 40 - 1 ≤ 0 := by decide +kernel
  have hlt : -40 < x := Int32.lt_of_le_of_lt ht h
  obtain ⟨k, hk, rfl⟩ := off40 h1 (Int32.le_trans h2 (by decide))
  exact H ⟨k, hk⟩ h2 hlt
theorem VB.mv {K T : Nat → Int32} {N : Nat} {A : Int32} (h : VB K T N) (hA : -40 ≤ A ∧ A ≤ 20) : VB K (upto N (mvT A T N) T) N := by
  intro y hy
  refine ⟨(h y hy).1, ?_⟩
  rw [show upto N (mvT A T N) T y = mvT A T N y from if_pos hy]
  have hab : -40 ≤ (if y = 0 then A else T (y - 1)) ∧ (if y = 0 then A else T (y - 1)) ≤ 20 := by
    split
    · exact hA
    · have := (h (y - 1) (by omega)).2; exact ⟨this.1, Int32.le_trans this.2 (by decide)⟩
  have hbe : -40 ≤ (if y + 1 < N then T (y + 1) else 0) ∧ (if y + 1 < N then T (y + 1) else 0) ≤ 0 := by
    split
    · rename_i hy1; exact (h (y + 1) hy1).2
    · exact ⟨by decide, by decide⟩
  have ht := avg_ge hab.1 hab.2 hbe.1 hbe.2
  by_cases hc : T y < tgF A T N y ∧ T y < 0
  · rw [show mvT A T N y = T y + 1 from if_pos hc]
    exact inc_le0 (h y hy).2.1 hc.2
  · by_cases hc2 : tgF A T N y < T y
    · rw [show mvT A T N y = T y - 1 from (if_neg hc).trans (if_pos hc2)]
      exact dec_ge (h y hy).2.1 (h y hy).2.2 ht hc2
    · rw [show mvT A T N y = T y from (if_neg hc).trans (if_neg hc2)]
      exact (h y hy).2
theorem VB.shift {K T : Nat → Int32} {N : Nat} (h : VB K T N) : VB (shiftRow K (N - 1)) (shiftRow T (N - 1)) (N - 1) := by
  intro y hy
  have := h (y + 1) (by omega)
  unfold shiftRow
  rw [show upto (N - 1) (fun y => K (y + 1)) K y = K (y + 1) from if_pos hy, show upto (N - 1) (fun y => T (y + 1)) T y = T (y + 1) from if_pos hy]
  exact this
/-- every lake's layers lie in their bounds, the air too -/
def VL (M : Mem) (i : Nat) : Prop := (∀ j, j < nLk M i → VB (M.1 (LK i j + 1)) (M.1 (LK i j + 2)) (nLy M i j)) ∧ (-40 ≤ M.1 (LA i) 2 ∧ M.1 (LA i) 2 ≤ 20)
theorem one_le {x : Int32} (h1 : 1 ≤ x) (h2 : x ≤ 50) (h : ¬ x - 1 ≤ 0) : 1 ≤ x - 1 ∧ x - 1 ≤ 50 := by
  have e1 : 1 ≤ x.toInt := Int32.le_iff_toInt_le.mp h1
  have e2 : x.toInt ≤ 50 := Int32.le_iff_toInt_le.mp h2
  have h3 : (x - 1).toInt = x.toInt - 1 := by
    rw [Int32.toInt_sub]
    exact Int.bmod_eq_of_le (by show -(2 ^ 31 : Int) ≤ x.toInt - 1; omega) (by show x.toInt - 1 < _; omega)
  rw [Int32.le_iff_toInt_le, h3, Int32.toInt_zero] at h
  refine ⟨?_, ?_⟩
  · rw [Int32.le_iff_toInt_le, h3]; show (1 : Int) ≤ _; omega
  · rw [Int32.le_iff_toInt_le, h3]; show _ ≤ (50 : Int); omega
theorem VB.thaw {M : Mem} {i j N : Nat} {air : Int32} (h : VB (M.1 (LK i j + 1)) (M.1 (LK i j + 2)) N) (hN : LN M i j N) : VB ((thawM i j N air M).1 (LK i j + 1)) ((thawM i j N air M).1 (LK i j + 2)) (nLy (thawM i j N air M) i j) := by
  have hNy : nLy M i j = N := by unfold nLy; rw [hN.1, nI_clamp (by have := hN.2; omega)]
  unfold thawM
  split
  · rw [hNy]; exact h
  · rename_i hc
    have h0 : 0 < N := Nat.pos_of_ne_zero (fun z => hc (Or.inl z))
    split
    · rw [dropM_eq]
      have hny : nLy (set3 (up (up M (LK i j + 1) 0 (M.1 (LK i j + 1) 0 - 1)) (LK i j) 3 (nI (N - 1))) (LK i j) (shiftRow ((up M (LK i j + 1) 0 (M.1 (LK i j + 1) 0 - 1)).1 (LK i j + 1)) (N - 1)) (shiftRow ((up M (LK i j + 1) 0 (M.1 (LK i j + 1) 0 - 1)).1 (LK i j + 2)) (N - 1)) (shiftRow ((up M (LK i j + 1) 0 (M.1 (LK i j + 1) 0 - 1)).1 (LK i j + 3)) (N - 1))) i j = N - 1 := by
        unfold nLy
        rw [set3_o _ _ _ _ _ (by omega), up_same, nI_clamp (by have := hN.2; omega)]
      rw [hny, set3_1, set3_2]
      intro y hy
      have := h (y + 1) (by omega)
      unfold shiftRow
      rw [show ∀ f f0 : Nat → Int32, upto (N - 1) f f0 y = f y from fun f f0 => if_pos hy, show ∀ f f0 : Nat → Int32, upto (N - 1) f f0 y = f y from fun f f0 => if_pos hy, up_slot _ _ _ (by omega), up_cell _ _ _ (by omega)]
      exact this
    · rename_i hk
      have hny : nLy (up M (LK i j + 1) 0 (M.1 (LK i j + 1) 0 - 1)) i j = N := by
        unfold nLy; rw [up_cell _ _ _ (by omega)]; exact hNy
      rw [hny, up_cell _ _ _ (show LK i j + 2 ≠ LK i j + 1 by omega)]
      intro y hy
      by_cases e : y = 0
      · subst e
        rw [up_same]
        exact ⟨one_le (h 0 hy).1.1 (h 0 hy).1.2 hk, (h 0 hy).2⟩
      · rw [up_slot _ _ _ e]; exact h y hy
theorem lk2_VB {M : Mem} {i j : Nat} {rest : Bool} (h : VB (M.1 (LK i j + 1)) (M.1 (LK i j + 2)) (nLy M i j)) (hA : -40 ≤ M.1 (LA i) 2 ∧ M.1 (LA i) 2 ≤ 20) : VB ((lk2 i j rest M).1 (LK i j + 1)) ((lk2 i j rest M).1 (LK i j + 2)) (nLy M i j) := by
  rw [lk2_cell (by omega)]
  have e2 : (lk2 i j rest M).1 (LK i j + 2) = upto (nLy M i j) (mvT (M.1 (LA i) 2) (M.1 (LK i j + 2)) (nLy M i j)) (M.1 (LK i j + 2)) := by
    unfold lk2 stM mvM
    split
    · rw [setRow_same]
    · rw [setRow_cell _ _ (by omega), setRow_same]
  rw [e2]
  exact h.mv hA
theorem lkStep_VL {M : Mem} {i j : Nat} {rest : Bool} (h : VL M i) (hL : LW M i) (hj : j < nLk M i) : VL (lkStep i j rest M) i := by
  have hg := LK_ge i j
  have hlk : LK i j = LA i + 10 + 4 * j := rfl
  have h5 := hL.nl5
  obtain ⟨hL2, hn⟩ := lkStep_LW (rest := rest) hL hj
  refine ⟨fun j' hj' => ?_, ?_⟩
  · rw [hn] at hj'
    have hlk' : LK i j' = LA i + 10 + 4 * j' := rfl
    by_cases e : j' = j
    · subst e
      have hv := lk2_VB (rest := rest) (h.1 j' hj') h.2
      have hv3 : VB ((lk3 i j' rest M).1 (LK i j' + 1)) ((lk3 i j' rest M).1 (LK i j' + 2)) (nLy M i j') := by
        unfold lk3
        rw [ckEnd_cell (by omega) (by omega), ckEnd_cell (by omega) (by omega)]
        exact hv
      have ht := VB.thaw (air := M.1 (LA i) 2) hv3 (lk3_LN (rest := rest) (hL.ln hj'))
      have e1 : (lkStep i j' rest M).1 (LK i j' + 1) = (thawM i j' (nLy M i j') (M.1 (LA i) 2) (lk3 i j' rest M)).1 (LK i j' + 1) := by unfold lkStep; rw [up_cell _ _ _ (by omega)]
      have e2 : (lkStep i j' rest M).1 (LK i j' + 2) = (thawM i j' (nLy M i j') (M.1 (LA i) 2) (lk3 i j' rest M)).1 (LK i j' + 2) := by unfold lkStep; rw [up_cell _ _ _ (by omega)]
      have e3 : nLy (lkStep i j' rest M) i j' = nLy (thawM i j' (nLy M i j') (M.1 (LA i) 2) (lk3 i j' rest M)) i j' := by unfold nLy lkStep; rw [up_cell _ _ _ (by omega)]; rfl
      rw [e1, e2, e3]
      exact ht
    · have c : ∀ o, o < 4 → (lkStep i j rest M).1 (LK i j' + o) = M.1 (LK i j' + o) := fun o ho => lkStep_cell (by omega) (by omega) (by omega)
      rw [c 1 (by omega), c 2 (by omega), show nLy (lkStep i j rest M) i j' = nLy M i j' by unfold nLy; rw [show LK i j' = LK i j' + 0 from rfl, c 0 (by omega)]]
      exact h.1 j' hj'
  · rw [lkStep_slot (by decide)]; exact h.2
theorem hour0_VL {M : Mem} {i : Nat} (h : VL M i) : VL (hourM0 i M) i := by
  refine ⟨fun j hj => ?_, ?_⟩
  · have hg := LK_ge i j
    have hn : nLk (hourM0 i M) i = nLk M i := by unfold nLk hourM0; rw [up_slot _ _ _ (by decide)]
    rw [hn] at hj
    have c : ∀ k, k ≠ LA i → (hourM0 i M).1 k = M.1 k := fun k hk => by unfold hourM0; rw [up_cell _ _ _ hk]
    rw [c _ (by omega), c _ (by omega), show nLy (hourM0 i M) i j = nLy M i j by unfold nLy; rw [c _ (by omega)]]
    exact h.1 j hj
  · unfold hourM0; rw [up_slot _ _ _ (by decide)]; exact h.2
theorem lks_VL {M : Mem} {i : Nat} {rest : Bool} (h : VL M i) (hL : LW M i) : ∀ q, q ≤ nLk M i → VL (lksM i rest M q) i
  | 0, _ => h
  | q + 1, hq => by
    obtain ⟨h1, h2⟩ := lks_LW (rest := rest) hL q (by omega)
    exact lkStep_VL (lks_VL h hL q (by omega)) h1 (by omega)
theorem hour_VL {M : Mem} {i : Nat} (h : VL M i) (hL : LW M i) : VL (hourM i M) i := by
  obtain ⟨h1, h2⟩ := hour0_LW hL
  exact lks_VL (hour0_VL h) h1 _ (by omega)
theorem hours_VL {M : Mem} {i : Nat} (h : VL M i) (hL : LW M i) : ∀ q, VL (hoursM i M q) i
  | 0 => h
  | q + 1 => hour_VL (hours_VL h hL q) (hours_LW hL q).1
