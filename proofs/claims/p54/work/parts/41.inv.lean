/-! invariants of a landscape, out of the whole row: values' bounds, windows in order, ice, pitches, cracks, ranks, pairs -/
theorem nI_mulN (a b : Nat) : nI a * nI b = nI (a * b) := by
  apply Int32.toBitVec_inj.mp
  simp [nI]
def psl (M : Mem) (i q : Nat) : Nat := (wOf M i + 15 - q) % 16
theorem up_nf (m : Mem) {k f : Nat} (v : Int32) {q j : Nat} (h : q ≠ k ∨ j ≠ f) : (up m k f v).1 q j = m.1 q j := if_neg (fun z => h.elim (fun a => a z.1) (fun a => a z.2))
theorem upd_at (R : Nat → Int32) (k : Nat) (v : Int32) : upd R k v k = v := if_pos rfl
theorem upd_ne (R : Nat → Int32) {k q : Nat} (v : Int32) (h : q ≠ k) : upd R k v q = R q := if_neg h
def abF (A : Int32) (T : Nat → Int32) (y : Nat) : Int32 := if y = 0 then A else T (y - 1)
def beF (T : Nat → Int32) (N y : Nat) : Int32 := if y + 1 < N then T (y + 1) else 0
def tgF (A : Int32) (T : Nat → Int32) (N y : Nat) : Int32 := (abF A T y + beF T N y) / 2
theorem off40 {x : Int32} (h1 : -40 ≤ x) (h2 : x ≤ 20) : ∃ k, k < 61 ∧ x = nI k - 40 := by
  have e1 : -40 ≤ x.toInt := Int32.le_iff_toInt_le.mp h1
  have e2 : x.toInt ≤ 20 := Int32.le_iff_toInt_le.mp h2
  have h3 : (x + 40).toInt = x.toInt + 40 := by
    rw [Int32.toInt_add]
    exact Int.bmod_eq_of_le (by show -(2 ^ 31 : Int) ≤ x.toInt + 40; omega) (by show x.toInt + 40 < _; omega)
  obtain ⟨j, hj, hj2⟩ := nI_of (x := x + 40) (by rw [Int32.lt_iff_toInt_lt, h3, Int32.toInt_zero]; omega)
  refine ⟨j, ?_, ?_⟩
  · have : (j : Int) = x.toInt + 40 := by rw [← h3, hj2, nI_toInt hj]
    omega
  · rw [← hj2]
    apply Int32.toBitVec_inj.mp
    simp
theorem avg_ge {a b : Int32} (ha1 : -40 ≤ a) (ha2 : a ≤ 20) (hb1 : -40 ≤ b) (hb2 : b ≤ 0) : -40 ≤ (a + b) / 2 := by
  have H : ∀ x : Fin 61, ∀ y : Fin 61, -40 ≤ ((nI x.1 - 40) + (nI y.1 - 40)) / 2 := by decide +kernel
  obtain ⟨x, hx, rfl⟩ := off40 ha1 ha2
  obtain ⟨y, hy, rfl⟩ := off40 hb1 (Int32.le_trans hb2 (by decide))
  exact H ⟨x, hx⟩ ⟨y, hy⟩
theorem inc_le0 {x : Int32} (h1 : -40 ≤ x) (h : x < 0) : -40 ≤ x + 1 ∧ x + 1 ≤ 0 := by
  have H : ∀ x : Fin 61, nI x.1 - 40 < 0 → -40 ≤ nI x.1 - 40 + 1 ∧ nI x.1 - 40 + 1 ≤ 0 := by decide +kernel
  obtain ⟨k, hk, rfl⟩ := off40 h1 (Int32.le_trans (Int32.le_of_lt h) (by decide))
  exact H ⟨k, hk⟩ h
theorem dec_ge {x t : Int32} (h1 : -40 ≤ x) (h2 : x ≤ 0) (ht : -40 ≤ t) (h : t < x) : -40 ≤ x - 1 ∧ x - 1 ≤ 0 := by
  have H : ∀ x : Fin 61, nI x.1 - 40 ≤ 0 → -40 < nI x.1 - 40 → -40 ≤ nI x.1 - 40 - 1 ∧ nI x.1 - 40 - 1 ≤ 0 := by decide +kernel
  have hlt : -40 < x := Int32.lt_of_le_of_lt ht h
  obtain ⟨k, hk, rfl⟩ := off40 h1 (Int32.le_trans h2 (by decide))
  exact H ⟨k, hk⟩ h2 hlt
theorem VB.mv {K T : Nat → Int32} {N : Nat} {A : Int32} (h : VB K T N) (hA : -40 ≤ A ∧ A ≤ 20) : VB K (upto N (mvT A T N) T) N := by
  intro y hy
  refine ⟨(h y hy).1, ?_⟩
  rw [show upto N (mvT A T N) T y = mvT A T N y from if_pos hy]
  have hab : -40 ≤ (if y = 0 then A else T (y - 1)) ∧ (if y = 0 then A else T (y - 1)) ≤ 20 := by
    split
    · exact hA
    · have := (h (y - 1) (by omega)).2; exact ⟨this.1, Int32.le_trans this.2 (by decide)⟩
  have hbe : -40 ≤ (if y + 1 < N then T (y + 1) else 0) ∧ (if y + 1 < N then T (y + 1) else 0) ≤ 0 := by
    split
    · rename_i hy1; exact (h (y + 1) hy1).2
    · exact ⟨by decide, by decide⟩
  have ht := avg_ge hab.1 hab.2 hbe.1 hbe.2
  by_cases hc : T y < tgF A T N y ∧ T y < 0
  · rw [show mvT A T N y = T y + 1 from if_pos hc]
    exact inc_le0 (h y hy).2.1 hc.2
  · by_cases hc2 : tgF A T N y < T y
    · rw [show mvT A T N y = T y - 1 from (if_neg hc).trans (if_pos hc2)]
      exact dec_ge (h y hy).2.1 (h y hy).2.2 ht hc2
    · rw [show mvT A T N y = T y from (if_neg hc).trans (if_neg hc2)]
      exact (h y hy).2
theorem VB.shift {K T : Nat → Int32} {N : Nat} (h : VB K T N) : VB (shiftRow K (N - 1)) (shiftRow T (N - 1)) (N - 1) := by
  intro y hy
  have := h (y + 1) (by omega)
  unfold shiftRow
  rw [show upto (N - 1) (fun y => K (y + 1)) K y = K (y + 1) from if_pos hy, show upto (N - 1) (fun y => T (y + 1)) T y = T (y + 1) from if_pos hy]
  exact this
/-- every lake's layers lie in their bounds, the air too -/
def VL (M : Mem) (i : Nat) : Prop := (∀ j, j < nLk M i → VB (M.1 (LK i j + 1)) (M.1 (LK i j + 2)) (nLy M i j)) ∧ (-40 ≤ M.1 (LA i) 2 ∧ M.1 (LA i) 2 ≤ 20)
theorem one_le {x : Int32} (h1 : 1 ≤ x) (h2 : x ≤ 50) (h : ¬ x - 1 ≤ 0) : 1 ≤ x - 1 ∧ x - 1 ≤ 50 := by
  have e1 : 1 ≤ x.toInt := Int32.le_iff_toInt_le.mp h1
  have e2 : x.toInt ≤ 50 := Int32.le_iff_toInt_le.mp h2
  have h3 : (x - 1).toInt = x.toInt - 1 := by
    rw [Int32.toInt_sub]
    exact Int.bmod_eq_of_le (by show -(2 ^ 31 : Int) ≤ x.toInt - 1; omega) (by show x.toInt - 1 < _; omega)
  rw [Int32.le_iff_toInt_le, h3, Int32.toInt_zero] at h
  refine ⟨?_, ?_⟩
  · rw [Int32.le_iff_toInt_le, h3]; show (1 : Int) ≤ _; omega
  · rw [Int32.le_iff_toInt_le, h3]; show _ ≤ (50 : Int); omega
theorem VB.thaw {M : Mem} {i j N : Nat} {air : Int32} (h : VB (M.1 (LK i j + 1)) (M.1 (LK i j + 2)) N) (hN : LN M i j N) : VB ((thawM i j N air M).1 (LK i j + 1)) ((thawM i j N air M).1 (LK i j + 2)) (nLy (thawM i j N air M) i j) := by
  have hNy : nLy M i j = N := by unfold nLy; rw [hN.1, nI_clamp (by have := hN.2; omega)]
  unfold thawM
  split
  · rw [hNy]; exact h
  · rename_i hc
    have h0 : 0 < N := Nat.pos_of_ne_zero (fun z => hc (Or.inl z))
    split
    · rw [dropM_eq]
      have hny : nLy (set3 (up (up M (LK i j + 1) 0 (M.1 (LK i j + 1) 0 - 1)) (LK i j) 3 (nI (N - 1))) (LK i j) (shiftRow ((up M (LK i j + 1) 0 (M.1 (LK i j + 1) 0 - 1)).1 (LK i j + 1)) (N - 1)) (shiftRow ((up M (LK i j + 1) 0 (M.1 (LK i j + 1) 0 - 1)).1 (LK i j + 2)) (N - 1)) (shiftRow ((up M (LK i j + 1) 0 (M.1 (LK i j + 1) 0 - 1)).1 (LK i j + 3)) (N - 1))) i j = N - 1 := by
        unfold nLy
        rw [set3_o _ _ _ _ _ (by omega), up_same, nI_clamp (by have := hN.2; omega)]
      rw [hny, set3_1, set3_2]
      intro y hy
      have := h (y + 1) (by omega)
      unfold shiftRow
      rw [show ∀ f f0 : Nat → Int32, upto (N - 1) f f0 y = f y from fun f f0 => if_pos hy, show ∀ f f0 : Nat → Int32, upto (N - 1) f f0 y = f y from fun f f0 => if_pos hy, up_slot _ _ _ (by omega), up_cell _ _ _ (by omega)]
      exact this
    · rename_i hk
      have hny : nLy (up M (LK i j + 1) 0 (M.1 (LK i j + 1) 0 - 1)) i j = N := by
        unfold nLy; rw [up_cell _ _ _ (by omega)]; exact hNy
      rw [hny, up_cell _ _ _ (show LK i j + 2 ≠ LK i j + 1 by omega)]
      intro y hy
      by_cases e : y = 0
      · subst e
        rw [up_same]
        exact ⟨one_le (h 0 hy).1.1 (h 0 hy).1.2 hk, (h 0 hy).2⟩
      · rw [up_slot _ _ _ e]; exact h y hy
theorem lk2_VB {M : Mem} {i j : Nat} {rest : Bool} (h : VB (M.1 (LK i j + 1)) (M.1 (LK i j + 2)) (nLy M i j)) (hA : -40 ≤ M.1 (LA i) 2 ∧ M.1 (LA i) 2 ≤ 20) : VB ((lk2 i j rest M).1 (LK i j + 1)) ((lk2 i j rest M).1 (LK i j + 2)) (nLy M i j) := by
  rw [lk2_cell (by omega)]
  have e2 : (lk2 i j rest M).1 (LK i j + 2) = upto (nLy M i j) (mvT (M.1 (LA i) 2) (M.1 (LK i j + 2)) (nLy M i j)) (M.1 (LK i j + 2)) := by
    unfold lk2 stM mvM
    split
    · rw [setRow_same]
    · rw [setRow_cell _ _ (by omega), setRow_same]
  rw [e2]
  exact h.mv hA
theorem lkStep_VL {M : Mem} {i j : Nat} {rest : Bool} (h : VL M i) (hL : LW M i) (hj : j < nLk M i) : VL (lkStep i j rest M) i := by
  have hg := LK_ge i j
  have hlk : LK i j = LA i + 10 + 4 * j := rfl
  have h5 := hL.nl5
  obtain ⟨hL2, hn⟩ := lkStep_LW (rest := rest) hL hj
  refine ⟨fun j' hj' => ?_, ?_⟩
  · rw [hn] at hj'
    have hlk' : LK i j' = LA i + 10 + 4 * j' := rfl
    by_cases e : j' = j
    · subst e
      have hv := lk2_VB (rest := rest) (h.1 j' hj') h.2
      have hv3 : VB ((lk3 i j' rest M).1 (LK i j' + 1)) ((lk3 i j' rest M).1 (LK i j' + 2)) (nLy M i j') := by
        unfold lk3
        rw [ckEnd_cell (by omega) (by omega), ckEnd_cell (by omega) (by omega)]
        exact hv
      have ht := VB.thaw (air := M.1 (LA i) 2) hv3 (lk3_LN (rest := rest) (hL.ln hj'))
      have e1 : (lkStep i j' rest M).1 (LK i j' + 1) = (thawM i j' (nLy M i j') (M.1 (LA i) 2) (lk3 i j' rest M)).1 (LK i j' + 1) := by unfold lkStep; rw [up_cell _ _ _ (by omega)]
      have e2 : (lkStep i j' rest M).1 (LK i j' + 2) = (thawM i j' (nLy M i j') (M.1 (LA i) 2) (lk3 i j' rest M)).1 (LK i j' + 2) := by unfold lkStep; rw [up_cell _ _ _ (by omega)]
      have e3 : nLy (lkStep i j' rest M) i j' = nLy (thawM i j' (nLy M i j') (M.1 (LA i) 2) (lk3 i j' rest M)) i j' := by unfold nLy lkStep; rw [up_cell _ _ _ (by omega)]; rfl
      rw [e1, e2, e3]
      exact ht
    · have c : ∀ o, o < 4 → (lkStep i j rest M).1 (LK i j' + o) = M.1 (LK i j' + o) := fun o ho => lkStep_cell (by omega) (by omega) (by omega)
      rw [c 1 (by omega), c 2 (by omega), show nLy (lkStep i j rest M) i j' = nLy M i j' by unfold nLy; rw [show LK i j' = LK i j' + 0 from rfl, c 0 (by omega)]]
      exact h.1 j' hj'
  · rw [lkStep_slot (by decide)]; exact h.2
theorem hour0_VL {M : Mem} {i : Nat} (h : VL M i) : VL (hourM0 i M) i := by
  refine ⟨fun j hj => ?_, ?_⟩
  · have hg := LK_ge i j
    have hn : nLk (hourM0 i M) i = nLk M i := by unfold nLk hourM0; rw [up_slot _ _ _ (by decide)]
    rw [hn] at hj
    have c : ∀ k, k ≠ LA i → (hourM0 i M).1 k = M.1 k := fun k hk => by unfold hourM0; rw [up_cell _ _ _ hk]
    rw [c _ (by omega), c _ (by omega), show nLy (hourM0 i M) i j = nLy M i j by unfold nLy; rw [c _ (by omega)]]
    exact h.1 j hj
  · unfold hourM0; rw [up_slot _ _ _ (by decide)]; exact h.2
theorem lks_VL {M : Mem} {i : Nat} {rest : Bool} (h : VL M i) (hL : LW M i) : ∀ q, q ≤ nLk M i → VL (lksM i rest M q) i
  | 0, _ => h
  | q + 1, hq => by
    obtain ⟨h1, h2⟩ := lks_LW (rest := rest) hL q (by omega)
    exact lkStep_VL (lks_VL h hL q (by omega)) h1 (by omega)
theorem hour_VL {M : Mem} {i : Nat} (h : VL M i) (hL : LW M i) : VL (hourM i M) i := by
  obtain ⟨h1, h2⟩ := hour0_LW hL
  exact lks_VL (hour0_VL h) h1 _ (by omega)
theorem hours_VL {M : Mem} {i : Nat} (h : VL M i) (hL : LW M i) : ∀ q, VL (hoursM i M q) i
  | 0 => h
  | q + 1 => hour_VL (hours_VL h hL q) (hours_LW hL q).1
theorem ckM_facts {num hr : Int32} {i j N : Nat} {M : Mem} (q : Nat) : (ckM num hr i j N M q).1 (LK i j + 1) = M.1 (LK i j + 1) ∧ (ckM num hr i j N M q).1 (LK i j + 2) = M.1 (LK i j + 2) ∧ (ckM num hr i j N M q).1 (LA i) = M.1 (LA i) ∧ (ckM num hr i j N M q).1 (LK i j) = M.1 (LK i j) := by
  have hg := LK_ge i j
  exact ⟨ckM_cell (by omega) (by omega) q, ckM_cell (by omega) (by omega) q, ckM_cell (by omega) (by omega) q, ckM_cell (by omega) (by omega) q⟩
theorem lk3_VB {M : Mem} {i j : Nat} {rest : Bool} (h : VB (M.1 (LK i j + 1)) (M.1 (LK i j + 2)) (nLy M i j)) (hA : -40 ≤ M.1 (LA i) 2 ∧ M.1 (LA i) 2 ≤ 20) : VB ((lk3 i j rest M).1 (LK i j + 1)) ((lk3 i j rest M).1 (LK i j + 2)) (nLy M i j) := by
  have hg := LK_ge i j
  have hv := lk2_VB (rest := rest) h hA
  unfold lk3
  rw [ckEnd_cell (by omega) (by omega), ckEnd_cell (by omega) (by omega)]
  exact hv
/-- the windows' firsts ascend, and none ends before it begins -/
def WS (F L : Nat → Int32) (n : Nat) : Prop := (∀ w, w < n → F w ≤ L w) ∧ ∀ a b, a < b → b < n → F a < F b
theorem sum_eq {f f2 : Nat → Int32} : ∀ n, (∀ y, y < n → f y = f2 y) → l_sum f n = l_sum f2 n
  | 0, _ => rfl
  | n + 1, h => by
    show l_sum f n + f n = l_sum f2 n + f2 n
    rw [sum_eq n (fun y hy => h y (by omega)), h n (by omega)]
/-- what a landscape's values keep besides -/
def iceOk (M : Mem) (i : Nat) : Prop := ∀ j, j < nLk M i → 20 ≤ M.1 (LK i j) 4 ∧ M.1 (LK i j) 4 ≤ 400 ∧ 2 * iceV M i j ≤ M.1 (LK i j) 4
def XL (M : Mem) (i : Nat) : Prop := VL M i ∧ WS (M.1 (LA i + 3)) (M.1 (LA i + 4)) (nWn M i) ∧ M.1 (LA i) 4 - M.1 (LA i) 5 = l_sum (iceV M i) (nLk M i) ∧ iceOk M i ∧ ∀ y, y < 16 → 0 ≤ M.1 (LA i + 8) y ∧ M.1 (LA i + 8) y ≤ 140
theorem Sm.ice {M M' : Mem} {i i' j : Nat} (hs : Sm M M' i i') (hj : j < nLk M i) (h8 : nLy M i j ≤ 8) : iceV M' i' j = iceV M i j := by
  unfold iceV
  rw [hs.ny hj]
  exact sum_eq _ (fun y hy => hs.r j hj 1 (by omega) (by omega) y (by omega))
theorem XL.sm {M M' : Mem} {i i' : Nat} (h : XL M i) (hL : LW M i) (hs : Sm M M' i i') : XL M' i' := by
  obtain ⟨hV, hW, hI, hO, hP⟩ := h
  have h6 := hL.wr.2
  have hice : ∀ j, j < nLk M i → iceV M' i' j = iceV M i j := fun j hj => hs.ice hj (hL.ln hj).2
  refine ⟨⟨fun j hj => ?_, ?_⟩, ?_, ?_, fun j hj => ?_, fun y hy => ?_⟩
  · rw [hs.nl] at hj
    have h8 := (hL.ln hj).2
    rw [hs.ny hj]
    intro y hy
    rw [hs.r j hj 1 (by omega) (by omega) y (by omega), hs.r j hj 2 (by omega) (by omega) y (by omega)]
    exact hV.1 j hj y hy
  · rw [hs.f 2 (by omega) (by omega)]; exact hV.2
  · rw [hs.nw]
    refine ⟨fun w hw => ?_, fun a b hab hb => ?_⟩
    · rw [hs.w 3 (by omega) (by omega) w (by omega), hs.w 4 (by omega) (by omega) w (by omega)]
      exact hW.1 w hw
    · rw [hs.w 3 (by omega) (by omega) a (by omega), hs.w 3 (by omega) (by omega) b (by omega)]
      exact hW.2 a b hab hb
  · rw [hs.f 4 (by omega) (by omega), hs.f 5 (by omega) (by omega), hs.nl, hI]
    exact (sum_eq _ hice).symm
  · rw [hs.nl] at hj
    rw [hs.k j hj 4 (by omega) (by omega), hice j hj]
    exact hO j hj
  · rw [hs.p 8 (by omega) (by omega) y hy]
    exact hP y hy
theorem WS_ins {F L : Nat → Int32} {n p : Nat} {x z : Int32} (h : WS F L n) (hxz : x ≤ z) (hp : p = insPos F x n) (hc : meetB F L x z n = false) : WS (insRow F n p x) (insRow L n p z) (n + 1) := by
  have hpn : p ≤ n := by rw [hp]; exact insPos_le _ _ _
  have hlo : ∀ m, m ≤ n → ∀ w, w < m → w < insPos F x m → F w ≤ x := by
    intro m
    induction m with
    | zero => intro _ w hw; omega
    | succ m ih =>
      intro hm w hw hi
      by_cases e : x < F m
      · rw [show insPos F x (m + 1) = insPos F x m from if_pos e] at hi
        have := insPos_le F x m
        exact ih (by omega) w (by omega) hi
      · by_cases ew : w = m
        · rw [ew]; exact Int32.not_lt.mp e
        · exact Int32.le_trans (Int32.le_of_lt (h.2 w m (by omega) (by omega))) (Int32.not_lt.mp e)
  have hhi : ∀ m, m ≤ n → ∀ w, insPos F x m ≤ w → w < m → x < F w := by
    intro m
    induction m with
    | zero => intro _ w _ hw; omega
    | succ m ih =>
      intro hm w hi hw
      by_cases e : x < F m
      · rw [show insPos F x (m + 1) = insPos F x m from if_pos e] at hi
        by_cases ew : w = m
        · rw [ew]; exact e
        · exact ih (by omega) w hi (by omega)
      · rw [show insPos F x (m + 1) = m + 1 from if_neg e] at hi
        omega
  have hlt : ∀ w, w < p → F w < x := by
    intro w hw
    have h1 := hlo n (Nat.le_refl n) w (by omega) (by rw [← hp]; exact hw)
    refine Int32.not_le.mp (fun z2 => ?_)
    have he := Int32.le_antisymm h1 z2
    have := meetB_stay (F := F) (L := L) (a := x) (b := z) (q := w) (by rw [← he]; exact h.1 w (by omega)) (by rw [he]; exact hxz) n (by omega)
    rw [hc] at this
    exact absurd this (by decide)
  have hgt : ∀ w, p ≤ w → w < n → x < F w := fun w a b => hhi n (Nat.le_refl n) w (by rw [← hp]; exact a) b
  have r1 : ∀ (f : Nat → Int32) (v : Int32) w, w < p → insRow f n p v w = f w := fun f v w hw => by
    unfold insRow shR
    rw [if_neg (by omega), if_neg (by omega)]
  have r2 : ∀ (f : Nat → Int32) (v : Int32), insRow f n p v p = v := fun f v => if_pos rfl
  have r3 : ∀ (f : Nat → Int32) (v : Int32) w, p < w → w ≤ n → insRow f n p v w = f (w - 1) := fun f v w a b => by
    unfold insRow shR
    rw [if_neg (by omega), if_pos ⟨a, b⟩]
  refine ⟨fun w hw => ?_, fun a b hab hb => ?_⟩
  · rcases Nat.lt_trichotomy w p with e | e | e
    · rw [r1 _ _ _ e, r1 _ _ _ e]; exact h.1 w (by omega)
    · rw [e, r2, r2]; exact hxz
    · rw [r3 _ _ _ e (by omega), r3 _ _ _ e (by omega)]; exact h.1 (w - 1) (by omega)
  · rcases Nat.lt_trichotomy a p with e | e | e
    · rw [r1 _ _ _ e]
      rcases Nat.lt_trichotomy b p with e2 | e2 | e2
      · rw [r1 _ _ _ e2]; exact h.2 a b hab (by omega)
      · rw [e2, r2]; exact hlt a e
      · rw [r3 _ _ _ e2 (by omega)]
        by_cases e3 : b - 1 = a
        · omega
        · exact h.2 a (b - 1) (by omega) (by omega)
    · rw [e, r2, r3 _ _ _ (by omega) (by omega)]
      exact hgt (b - 1) (by omega) (by omega)
    · rw [r3 _ _ _ e (by omega), r3 _ _ _ (by omega) (by omega)]
      exact h.2 (a - 1) (b - 1) (by omega) (by omega)
theorem WS_rm {F L : Nat → Int32} {n a : Nat} (h : WS F L n) (ha : a < n) : WS (rmRow F a (n - 1)) (rmRow L a (n - 1)) (n - 1) := by
  have r1 : ∀ (f : Nat → Int32) w, w < a → rmRow f a (n - 1) w = f w := fun f w hw => by unfold rmRow; rw [if_neg (by omega)]
  have r2 : ∀ (f : Nat → Int32) w, a ≤ w → w < n - 1 → rmRow f a (n - 1) w = f (w + 1) := fun f w h1 h2 => by unfold rmRow; rw [if_pos ⟨h1, h2⟩]
  refine ⟨fun w hw => ?_, fun b c hbc hc => ?_⟩
  · rcases Nat.lt_or_ge w a with e | e
    · rw [r1 _ _ e, r1 _ _ e]; exact h.1 w (by omega)
    · rw [r2 _ _ e hw, r2 _ _ e hw]; exact h.1 (w + 1) (by omega)
  · rcases Nat.lt_or_ge b a with e | e
    · rw [r1 _ _ e]
      rcases Nat.lt_or_ge c a with e2 | e2
      · rw [r1 _ _ e2]; exact h.2 b c hbc (by omega)
      · rw [r2 _ _ e2 hc]; exact h.2 b (c + 1) (by omega) (by omega)
    · rw [r2 _ _ e (by omega), r2 _ _ (by omega) hc]
      exact h.2 (b + 1) (c + 1) (by omega) (by omega)
theorem sum_at {f f2 : Nat → Int32} {j : Nat} {d : Int32} : ∀ n, j < n → (∀ y, y < n → y ≠ j → f2 y = f y) → f2 j = f j + d → l_sum f2 n = l_sum f n + d
  | 0, h, _, _ => absurd h (by omega)
  | n + 1, h, ho, hd => by
    show l_sum f2 n + f2 n = l_sum f n + f n + d
    by_cases e : n = j
    · subst e
      rw [hd, sum_eq n (fun y hy => ho y (by omega) (by omega)), Int32.add_assoc]
    · rw [ho n (by omega) e, sum_at n (by omega) (fun y hy hne => ho y (by omega) hne) hd, Int32.add_assoc, Int32.add_assoc, Int32.add_comm d]
theorem sum_shift {f : Nat → Int32} : ∀ n, l_sum f (n + 1) = f 0 + l_sum (fun y => f (y + 1)) n
  | 0 => by show 0 + f 0 = f 0 + 0; rw [Int32.zero_add, Int32.add_zero]
  | n + 1 => by
    show l_sum f (n + 1) + f (n + 1) = f 0 + (l_sum (fun y => f (y + 1)) n + f (n + 1))
    rw [sum_shift n, Int32.add_assoc]
theorem ice_nat {K T : Nat → Int32} : ∀ N, VB K T N → ∃ s, l_sum K N = nI s ∧ N ≤ s ∧ s ≤ 50 * N
  | 0, _ => ⟨0, rfl, Nat.le_refl 0, Nat.le_refl 0⟩
  | n + 1, h => by
    obtain ⟨s, h1, h2, h3⟩ := ice_nat n (fun y hy => h y (by omega))
    obtain ⟨k, hk, e⟩ := nI_of (x := K n) (Int32.not_lt.mpr (Int32.le_trans (show (0 : Int32) ≤ 1 by decide) (h n (by omega)).1.1))
    have a := (h n (by omega)).1
    rw [e] at a
    have a1 := (nI_leI (a := 1) (by decide) (by omega)).mp a.1
    have a2 := (nI_leI (b := 50) (by omega) (by decide)).mp a.2
    refine ⟨s + k, ?_, by omega, by omega⟩
    show l_sum K n + K n = _
    rw [h1, e, nI_add]
theorem pitch_ok {K T : Nat → Int32} {N q : Nat} (h : VB K T N) (hq : q < N) : 0 ≤ pitchV K T q ∧ pitchV K T q ≤ 140 := by
  have H : ∀ k : Fin 51, ∀ t : Fin 41, 0 ≤ 100 / (if 1 < nI k.1 then nI k.1 else 1) - (nI t.1 - 40) ∧ 100 / (if 1 < nI k.1 then nI k.1 else 1) - (nI t.1 - 40) ≤ 140 := by decide +kernel
  obtain ⟨k, hk, e⟩ := nI_of (x := K q) (Int32.not_lt.mpr (Int32.le_trans (show (0 : Int32) ≤ 1 by decide) (h q hq).1.1))
  have a := (h q hq).1.2
  rw [e] at a
  have a2 := (nI_leI (b := 50) (by omega) (by decide)).mp a
  obtain ⟨t, ht, e2⟩ := off40 (h q hq).2.1 (Int32.le_trans (h q hq).2.2 (by decide))
  have b := (h q hq).2.2
  rw [e2] at b
  have ht2 : t ≤ 40 := by
    have G : ∀ t : Fin 61, nI t.1 - 40 ≤ 0 → t.1 ≤ 40 := by decide +kernel
    exact G ⟨t, ht⟩ b
  unfold pitchV
  rw [e, e2]
  exact H ⟨k, by omega⟩ ⟨t, by omega⟩
theorem XL.keep {M M' : Mem} {i : Nat} (h : XL M i) (h5 : nLk M i ≤ 5) (hk : ∀ o, 10 ≤ o → o < 30 → M'.1 (LA i + o) = M.1 (LA i + o)) (h1 : M'.1 (LA i) 1 = M.1 (LA i) 1) (hf : M'.1 (LA i) 4 = M.1 (LA i) 4 ∧ M'.1 (LA i) 5 = M.1 (LA i) 5) (hA : -40 ≤ M'.1 (LA i) 2 ∧ M'.1 (LA i) 2 ≤ 20) (hW : WS (M'.1 (LA i + 3)) (M'.1 (LA i + 4)) (nWn M' i)) (hP : ∀ y, y < 16 → 0 ≤ M'.1 (LA i + 8) y ∧ M'.1 (LA i + 8) y ≤ 140) : XL M' i := by
  obtain ⟨hV, _, hI, hO, _⟩ := h
  have hn : nLk M' i = nLk M i := by unfold nLk; rw [h1]
  have hc : ∀ j, j < nLk M i → ∀ o, o < 4 → M'.1 (LK i j + o) = M.1 (LK i j + o) := fun j hj o ho => by
    have := hk (10 + 4 * j + o) (by omega) (by omega)
    rw [show LA i + (10 + 4 * j + o) = LK i j + o by unfold LK; omega] at this
    exact this
  have hy : ∀ j, j < nLk M i → nLy M' i j = nLy M i j := fun j hj => by unfold nLy; rw [show LK i j = LK i j + 0 from rfl, hc j hj 0 (by omega)]
  have hice : ∀ j, j < nLk M i → iceV M' i j = iceV M i j := fun j hj => by unfold iceV; rw [hc j hj 1 (by omega), hy j hj]
  refine ⟨⟨fun j hj => ?_, hA⟩, hW, ?_, fun j hj => ?_, hP⟩
  · rw [hn] at hj
    rw [hc j hj 1 (by omega), hc j hj 2 (by omega), hy j hj]
    exact hV.1 j hj
  · rw [hf.1, hf.2, hn, hI]
    exact (sum_eq _ hice).symm
  · rw [hn] at hj
    rw [show LK i j = LK i j + 0 from rfl, hc j hj 0 (by omega), show iceV M' i j = iceV M i j from hice j hj]
    exact hO j hj
theorem XL.air {M : Mem} {i : Nat} {t : Int32} (h : XL M i) (h5 : nLk M i ≤ 5) (ht : -40 ≤ t ∧ t ≤ 20) : XL (up M (LA i) 2 t) i := by
  refine h.keep h5 (fun o a b => up_cell _ _ _ (by omega)) (up_slot _ _ _ (by omega)) ⟨up_slot _ _ _ (by omega), up_slot _ _ _ (by omega)⟩ (by rw [up_same]; exact ht) ?_ ?_
  · rw [up_cell _ _ _ (by omega), up_cell _ _ _ (by omega), show nWn (up M (LA i) 2 t) i = nWn M i by unfold nWn; rw [up_cell _ _ _ (by omega)]]
    exact h.2.1
  · rw [up_cell _ _ _ (by omega)]; exact h.2.2.2.2
theorem XL.hour0 {M : Mem} {i : Nat} (h : XL M i) (h5 : nLk M i ≤ 5) : XL (hourM0 i M) i := by
  unfold hourM0
  refine h.keep h5 (fun o a b => up_cell _ _ _ (by omega)) (up_slot _ _ _ (by omega)) ⟨up_slot _ _ _ (by omega), up_slot _ _ _ (by omega)⟩ (by rw [up_slot _ _ _ (by omega)]; exact h.1.2) ?_ ?_
  · rw [up_cell _ _ _ (by omega), up_cell _ _ _ (by omega), show nWn (up M (LA i) 3 (M.1 (LA i) 3 + 1)) i = nWn M i by unfold nWn; rw [up_cell _ _ _ (by omega)]]
    exact h.2.1
  · rw [up_cell _ _ _ (by omega)]; exact h.2.2.2.2
theorem rec_pit {i w cn : Nat} {kd lk pt hr : Int32} {m : Mem} (hp : 0 ≤ pt ∧ pt ≤ 140) (h : ∀ y, y < 16 → 0 ≤ m.1 (LA i + 8) y ∧ m.1 (LA i + 8) y ≤ 140) : ∀ y, y < 16 → 0 ≤ (recM i w cn kd lk pt hr m).1 (LA i + 8) y ∧ (recM i w cn kd lk pt hr m).1 (LA i + 8) y ≤ 140 := by
  intro y hy
  unfold recM
  rw [up_cell _ _ _ (by omega), up_cell _ _ _ (by omega), up_cell _ _ _ (by omega)]
  by_cases e : y = w
  · subst e; rw [up_same]; exact hp
  · rw [up_slot _ _ _ e, up_cell _ _ _ (by omega), up_cell _ _ _ (by omega)]; exact h y hy
theorem XL.ring {M : Mem} {i j y : Nat} (h : XL M i) (hL : LW M i) (hj : j < nLk M i) (hy : y < nLy M i j) : XL (ringM i j y M) i := by
  unfold ringM
  refine h.keep hL.nl5 (fun o a b => recM_cell (by omega)) (by rw [recM_cell (by omega)]) ⟨by rw [recM_cell (by omega)], by rw [recM_cell (by omega)]⟩ (by rw [recM_cell (by omega)]; exact h.1.2) ?_ (rec_pit (pitch_ok (h.1.1 j hj) hy) h.2.2.2.2)
  rw [recM_cell (by omega), recM_cell (by omega), show ∀ w cn kd lk pt hr, nWn (recM i w cn kd lk pt hr M) i = nWn M i from fun w cn kd lk pt hr => by unfold nWn; rw [recM_cell (by omega)]]
  exact h.2.1
theorem XL.ins {M : Mem} {i n : Nat} {x z : Int32} (h : XL M i) (hL : LW M i) (hn : n = nWn M i) (h6 : n < 6) (hxz : x ≤ z) (hc : meetB (M.1 (LA i + 3)) (M.1 (LA i + 4)) x z n = false) : XL (insM i n x z M) i := by
  refine h.keep hL.nl5 (fun o a b => insM_cell (by omega)) (by rw [insM_cell (by omega)]) ⟨by rw [insM_cell (by omega)], by rw [insM_cell (by omega)]⟩ (by rw [insM_cell (by omega)]; exact h.1.2) ?_ (by rw [insM_cell (by omega)]; exact h.2.2.2.2)
  have e3 : nWn (insM i n x z M) i = n + 1 := by unfold nWn insM; rw [up_same, nI_clamp (by omega)]
  have c3 : (insM i n x z M).1 (LA i + 3) = insRow (M.1 (LA i + 3)) n (insPos (M.1 (LA i + 3)) x n) x := by unfold insM; rw [up_cell _ _ _ (by omega), setRow_cell _ _ (by omega), setRow_same]
  have c4 : (insM i n x z M).1 (LA i + 4) = insRow (M.1 (LA i + 4)) n (insPos (M.1 (LA i + 3)) x n) z := by unfold insM; rw [up_cell _ _ _ (by omega), setRow_same]
  rw [e3, c3, c4]
  exact WS_ins (by rw [hn]; exact h.2.1) hxz rfl hc
theorem XL.rm {M : Mem} {i n a : Nat} (h : XL M i) (hL : LW M i) (hn : n = nWn M i) (ha : a < n) : XL (rmM i n a M) i := by
  have h6 : n ≤ 6 := by rw [hn]; exact hL.wr.2
  refine h.keep hL.nl5 (fun o b c => rmM_cell (by omega)) (by rw [rmM_cell (by omega)]) ⟨by rw [rmM_cell (by omega)], by rw [rmM_cell (by omega)]⟩ (by rw [rmM_cell (by omega)]; exact h.1.2) ?_ (by rw [rmM_cell (by omega)]; exact h.2.2.2.2)
  have e3 : nWn (rmM i n a M) i = n - 1 := by unfold nWn rmM; rw [setRow_cell _ _ (by omega), setRow_cell _ _ (by omega), up_same, nI_clamp (by omega)]
  have c3 : (rmM i n a M).1 (LA i + 3) = rmRow (M.1 (LA i + 3)) a (n - 1) := by unfold rmM; rw [setRow_cell _ _ (by omega), setRow_same]
  have c4 : (rmM i n a M).1 (LA i + 4) = rmRow (M.1 (LA i + 4)) a (n - 1) := by unfold rmM; rw [setRow_same]
  rw [e3, c3, c4]
  exact WS_rm (by rw [hn]; exact h.2.1) ha
theorem XL.place {M : Mem} {i : Nat} {d : Int32} (h : XL M i) (hL : LW M i) (h5 : nLk M i < 5) (hd : 20 ≤ d ∧ d ≤ 400) : XL (placeM i d M) i := by
  obtain ⟨hV, hW, hI, hO, hP⟩ := h
  obtain ⟨n, hnn⟩ : ∃ n, n = nLk M i := ⟨_, rfl⟩
  have hg := LK_ge i n
  have hlk : LK i n = LA i + 10 + 4 * n := rfl
  obtain ⟨hL', e1⟩ := place_LW (d := d) hL h5
  have hc : ∀ k, k ≠ LK i n → k ≠ LA i → (placeM i d M).1 k = M.1 k := fun k a b => placeM_cell (by rw [← hnn]; exact a) b
  have hs : ∀ f, f ≠ 1 → (placeM i d M).1 (LA i) f = M.1 (LA i) f := fun f hf1 => by
    unfold placeM
    rw [← hnn, up_slot _ _ _ hf1, up_cell _ _ _ (by omega), up_cell _ _ _ (by omega), up_cell _ _ _ (by omega)]
  have t4 : (placeM i d M).1 (LK i n) 4 = d := by unfold placeM; rw [← hnn, up_cell _ _ _ (by omega), up_slot _ _ _ (by omega), up_slot _ _ _ (by omega), up_same]
  have t3 : nLy (placeM i d M) i n = 0 := by
    unfold nLy placeM
    rw [← hnn, up_cell _ _ _ (by omega), up_slot _ _ _ (by omega), up_same]
    rfl
  rw [← hnn] at h5 e1 hI
  have e2 : ∀ j', j' ≠ n → nLy (placeM i d M) i j' = nLy M i j' := fun j' e => by have hlk' : LK i j' = LA i + 10 + 4 * j' := rfl; unfold nLy; rw [hc _ (by omega) (by omega)]
  have i0 : iceV (placeM i d M) i n = 0 := by unfold iceV; rw [t3]; rfl
  have hice : ∀ j, j < n → iceV (placeM i d M) i j = iceV M i j := fun j hj => by have hlk' : LK i j = LA i + 10 + 4 * j := rfl; unfold iceV; rw [hc _ (by omega) (by omega), e2 j (by omega)]
  refine ⟨⟨fun j hj => ?_, by rw [hs 2 (by omega)]; exact hV.2⟩, ?_, ?_, fun j hj => ?_, by rw [hc _ (by omega) (by omega)]; exact hP⟩
  · rw [e1] at hj
    have hlk' : LK i j = LA i + 10 + 4 * j := rfl
    by_cases e : j = n
    · rw [e, t3]; intro y hy; omega
    · rw [hc _ (by omega) (by omega), hc _ (by omega) (by omega), e2 j e]
      exact hV.1 j (by omega)
  · rw [hc _ (by omega) (by omega), hc _ (by omega) (by omega), show nWn (placeM i d M) i = nWn M i by unfold nWn; rw [hc _ (by omega) (by omega)]]
    exact hW
  · rw [hs 4 (by omega), hs 5 (by omega), e1, hI]
    show _ = l_sum (iceV (placeM i d M) i) n + iceV (placeM i d M) i n
    rw [i0, Int32.add_zero]
    exact (sum_eq _ hice).symm
  · rw [e1] at hj
    by_cases e : j = n
    · rw [e, t4, i0]
      exact ⟨hd.1, hd.2, Int32.le_trans (show 2 * (0 : Int32) ≤ 20 by decide) hd.1⟩
    · have hlk' : LK i j = LA i + 10 + 4 * j := rfl
      rw [hc _ (by omega) (by omega), hice j (by omega)]
      exact hO j (by omega)
theorem XL.grow {M : Mem} {i j : Nat} {t te : Int32} (h : XL M i) (hL : LW M i) (hj : j < nLk M i) (h7 : nLy M i j < 8) (ht : 1 ≤ t ∧ t ≤ 50) (hte : -40 ≤ te ∧ te ≤ 0) (hd : 2 * (iceV M i j + t) ≤ M.1 (LK i j) 4) : XL (growM i j t te M) i := by
  obtain ⟨hV, hW, hI, hO, hP⟩ := h
  have h5 := hL.nl5
  have hg := LK_ge i j
  have hlk : LK i j = LA i + 10 + 4 * j := rfl
  obtain ⟨hL', e1⟩ := grow_LW (t := t) (te := te) hL hj h7
  have hc : ∀ k, (k < LK i j ∨ LK i j + 3 < k) → k ≠ LA i → (growM i j t te M).1 k = M.1 k := fun k a b => growM_cell a b
  have hs : ∀ f, f ≠ 4 → (growM i j t te M).1 (LA i) f = M.1 (LA i) f := fun f hf => by
    unfold growM
    rw [up_cell _ _ _ (by omega), up_cell _ _ _ (by omega), up_cell _ _ _ (by omega), up_cell _ _ _ (by omega), up_slot _ _ _ hf]
  have s4 : (growM i j t te M).1 (LA i) 4 = M.1 (LA i) 4 + t := by
    unfold growM
    rw [up_cell _ _ _ (by omega), up_cell _ _ _ (by omega), up_cell _ _ _ (by omega), up_cell _ _ _ (by omega), up_same]
  have t4 : (growM i j t te M).1 (LK i j) 4 = M.1 (LK i j) 4 := by
    unfold growM
    rw [up_slot _ _ _ (by omega), up_cell _ _ _ (by omega), up_cell _ _ _ (by omega), up_cell _ _ _ (by omega), up_cell _ _ _ (by omega)]
  have t3 : nLy (growM i j t te M) i j = nLy M i j + 1 := by
    show ((growM i j t te M).1 (LK i j) 3).toNatClampNeg = _
    unfold growM
    rw [up_same, nI_clamp (by omega)]
  have k1 : (growM i j t te M).1 (LK i j + 1) = upd (M.1 (LK i j + 1)) (nLy M i j) t := by
    unfold growM
    rw [up_cell _ _ _ (by omega), up_cell _ _ _ (by omega), up_cell _ _ _ (by omega), up_row, up_cell _ _ _ (by omega)]
  have k2 : (growM i j t te M).1 (LK i j + 2) = upd (M.1 (LK i j + 2)) (nLy M i j) te := by
    unfold growM
    rw [up_cell _ _ _ (by omega), up_cell _ _ _ (by omega), up_row, up_cell _ _ _ (by omega), up_cell _ _ _ (by omega)]
  have e2 : ∀ j', j' ≠ j → nLy (growM i j t te M) i j' = nLy M i j' := fun j' e => by have hlk' : LK i j' = LA i + 10 + 4 * j' := rfl; show ((growM i j t te M).1 (LK i j') 3).toNatClampNeg = _; rw [hc _ (by omega) (by omega)]; rfl
  have hij : iceV (growM i j t te M) i j = iceV M i j + t := by
    unfold iceV
    rw [t3, k1]
    show l_sum _ (nLy M i j) + upd _ _ _ (nLy M i j) = _
    rw [upd_at, sum_eq (f2 := M.1 (LK i j + 1)) _ (fun y hy => upd_ne _ _ (by omega))]
  have hice : ∀ j', j' ≠ j → iceV (growM i j t te M) i j' = iceV M i j' := fun j' e => by have hlk' : LK i j' = LA i + 10 + 4 * j' := rfl; unfold iceV; rw [hc _ (by omega) (by omega), e2 j' e]
  refine ⟨⟨fun j' hj' => ?_, by rw [hs 2 (by omega)]; exact hV.2⟩, ?_, ?_, fun j' hj' => ?_, by rw [hc _ (by omega) (by omega)]; exact hP⟩
  · rw [e1] at hj'
    have hlk' : LK i j' = LA i + 10 + 4 * j' := rfl
    by_cases e : j' = j
    · subst e
      rw [k1, k2, t3]
      intro y hy
      by_cases ey : y = nLy M i j'
      · rw [ey, upd_at, upd_at]; exact ⟨ht, hte⟩
      · rw [upd_ne _ _ ey, upd_ne _ _ ey]; exact hV.1 j' hj' y (by omega)
    · rw [hc _ (by omega) (by omega), hc _ (by omega) (by omega), e2 j' e]
      exact hV.1 j' hj'
  · rw [hc _ (by omega) (by omega), hc _ (by omega) (by omega), show nWn (growM i j t te M) i = nWn M i by unfold nWn; rw [hc _ (by omega) (by omega)]]
    exact hW
  · rw [s4, hs 5 (by omega), e1, sum_at (f := iceV M i) (f2 := iceV (growM i j t te M) i) (j := j) (d := t) _ hj (fun y _ hne => hice y hne) hij, ← hI]
    rw [Int32.sub_eq_add_neg, Int32.sub_eq_add_neg, Int32.add_assoc, Int32.add_assoc, Int32.add_comm t]
  · rw [e1] at hj'
    by_cases e : j' = j
    · subst e
      rw [t4, hij]
      exact ⟨(hO j' hj').1, (hO j' hj').2.1, hd⟩
    · have hlk' : LK i j' = LA i + 10 + 4 * j' := rfl
      rw [hc _ (by omega) (by omega), hice j' e]
      exact hO j' hj'
theorem ckM_pit {num hr : Int32} {i j N : Nat} {m : Mem} (hv : VB (m.1 (LK i j + 1)) (m.1 (LK i j + 2)) N) (h : ∀ y, y < 16 → 0 ≤ m.1 (LA i + 8) y ∧ m.1 (LA i + 8) y ≤ 140) : ∀ q, q ≤ N → ∀ y, y < 16 → 0 ≤ (ckM num hr i j N m q).1 (LA i + 8) y ∧ (ckM num hr i j N m q).1 (LA i + 8) y ≤ 140
  | 0, _ => h
  | q + 1, hq => by
    have hg := LK_ge i j
    intro y hy
    show 0 ≤ (ckStep num hr i j N q (ckM num hr i j N m q)).1 (LA i + 8) y ∧ (ckStep num hr i j N q (ckM num hr i j N m q)).1 (LA i + 8) y ≤ 140
    unfold ckStep
    split
    · rw [pushM_cell (by omega), pushM_cell (by omega), up_cell _ _ _ (by omega)]
      refine rec_pit ?_ (ckM_pit hv h q (by omega)) y hy
      unfold ckPitch
      rw [(ckM_facts q).1, (ckM_facts q).2.1]
      split
      · exact ⟨by decide, by decide⟩
      · exact pitch_ok hv (by omega)
    · exact ckM_pit hv h q (by omega) y hy
theorem thawM_slot {i j N : Nat} {air : Int32} {m : Mem} {f : Nat} (h : f ≠ 3) : (thawM i j N air m).1 (LK i j) f = m.1 (LK i j) f := by
  unfold thawM
  split
  · rfl
  · split
    · rw [dropM_eq, set3_o _ _ _ _ _ (by omega), up_slot _ _ _ h, up_cell _ _ _ (by omega)]
    · rw [up_cell _ _ _ (by omega)]
theorem thaw_ice {m : Mem} {i j N : Nat} {air : Int32} (hv : VB (m.1 (LK i j + 1)) (m.1 (LK i j + 2)) N) (hN : LN m i j N) : iceV (thawM i j N air m) i j = l_sum (m.1 (LK i j + 1)) N + -(thawV i j N air m) := by
  have hNy : nLy m i j = N := by unfold nLy; rw [hN.1, nI_clamp (by have := hN.2; omega)]
  have h8 := hN.2
  unfold thawM thawV
  split
  · unfold iceV
    rw [hNy]
    exact (Int32.add_zero _).symm
  · rename_i hc
    have h0 : 0 < N := Nat.pos_of_ne_zero (fun z => hc (Or.inl z))
    obtain ⟨n, rfl⟩ : ∃ n, N = n + 1 := ⟨N - 1, by omega⟩
    split
    · rename_i hk
      have hk1 : m.1 (LK i j + 1) 0 = 1 := by
        have := (hv 0 (by omega)).1.1
        refine Int32.le_antisymm (Int32.not_lt.mp (fun z => ?_)) this
        have h2 := one_le this (hv 0 (by omega)).1.2
        obtain ⟨k, hk2, e⟩ := nI_of (x := m.1 (LK i j + 1) 0) (Int32.not_lt.mpr (Int32.le_trans (show (0 : Int32) ≤ 1 by decide) this))
        rw [e] at z hk
        have z1 := (nI_ltI (a := 1) (by decide) (by omega)).mp z
        rw [show nI k - 1 = nI (k - 1) from nI_subN (b := 1) (by omega)] at hk
        have := (nI_leI (b := 0) (by omega) (by decide)).mp hk
        omega
      have e3 : nLy (dropM i j (n + 1) (up m (LK i j + 1) 0 (m.1 (LK i j + 1) 0 - 1))) i j = n := by
        show ((dropM i j (n + 1) (up m (LK i j + 1) 0 (m.1 (LK i j + 1) 0 - 1))).1 (LK i j) 3).toNatClampNeg = _
        rw [dropM_eq, set3_o _ _ _ _ _ (by omega), up_same, nI_clamp (by omega)]
        omega
      unfold iceV
      rw [e3, dropM_eq, set3_1, Nat.add_sub_cancel, sum_shift, hk1]
      rw [sum_eq (f2 := fun y => m.1 (LK i j + 1) (y + 1)) n (fun y hy => by
        unfold shiftRow
        rw [show ∀ f f0 : Nat → Int32, upto n f f0 y = f y from fun f f0 => if_pos hy, up_slot _ _ _ (by omega)])]
      rw [Int32.add_comm 1, Int32.add_assoc]
      exact (Int32.add_zero _).symm
    · have e3 : nLy (up m (LK i j + 1) 0 (m.1 (LK i j + 1) 0 - 1)) i j = n + 1 := by
        unfold nLy; rw [up_cell _ _ _ (by omega)]; exact hNy
      unfold iceV
      rw [e3, up_row]
      exact sum_at (j := 0) _ (by omega) (fun y _ hne => upd_ne _ _ hne) (by rw [upd_at, Int32.sub_eq_add_neg])
theorem XL.step {M : Mem} {i j : Nat} {rest : Bool} (h : XL M i) (hL : LW M i) (hj : j < nLk M i) : XL (lkStep i j rest M) i := by
  have hVL := lkStep_VL (rest := rest) h.1 hL hj
  obtain ⟨hV, hW, hI, hO, hP⟩ := h
  have hg := LK_ge i j
  have hlk : LK i j = LA i + 10 + 4 * j := rfl
  have h5 := hL.nl5
  obtain ⟨hL2, hn⟩ := lkStep_LW (rest := rest) hL hj
  have hv3 := lk3_VB (rest := rest) (hV.1 j hj) hV.2
  have hN3 := lk3_LN (rest := rest) (hL.ln hj)
  have hk3 : (lk3 i j rest M).1 (LK i j + 1) = M.1 (LK i j + 1) := by
    unfold lk3
    rw [ckEnd_cell (by omega) (by omega), lk2_cell (by omega)]
  obtain ⟨v, hv⟩ : ∃ v, v = thawV i j (nLy M i j) (M.1 (LA i) 2) (lk3 i j rest M) := ⟨_, rfl⟩
  have hti := thaw_ice (air := M.1 (LA i) 2) hv3 hN3
  rw [hk3, ← hv] at hti
  have e1 : (lkStep i j rest M).1 (LK i j + 1) = (thawM i j (nLy M i j) (M.1 (LA i) 2) (lk3 i j rest M)).1 (LK i j + 1) := by unfold lkStep; rw [up_cell _ _ _ (by omega)]
  have e3 : nLy (lkStep i j rest M) i j = nLy (thawM i j (nLy M i j) (M.1 (LA i) 2) (lk3 i j rest M)) i j := by unfold nLy lkStep; rw [up_cell _ _ _ (by omega)]; rfl
  have hij : iceV (lkStep i j rest M) i j = iceV M i j + -v := by
    unfold iceV at hti ⊢
    rw [e1, e3]
    exact hti
  have hother : ∀ j', j' ≠ j → ∀ o, o < 4 → (lkStep i j rest M).1 (LK i j' + o) = M.1 (LK i j' + o) := fun j' e o ho => by
    have hlk' : LK i j' = LA i + 10 + 4 * j' := rfl
    exact lkStep_cell (by omega) (by omega) (by omega)
  have hice : ∀ j', j' ≠ j → iceV (lkStep i j rest M) i j' = iceV M i j' := fun j' e => by
    unfold iceV
    rw [hother j' e 1 (by omega), show nLy (lkStep i j rest M) i j' = nLy M i j' by unfold nLy; rw [show LK i j' = LK i j' + 0 from rfl, hother j' e 0 (by omega)]]
  have s5 : (lkStep i j rest M).1 (LA i) 5 = M.1 (LA i) 5 + v := by unfold lkStep; rw [up_same, hv]
  refine ⟨hVL, ?_, ?_, fun j' hj' => ?_, fun y hy => ?_⟩
  · rw [lkStep_cell (by omega) (by omega) (by omega), lkStep_cell (by omega) (by omega) (by omega), show nWn (lkStep i j rest M) i = nWn M i by unfold nWn; rw [lkStep_cell (by omega) (by omega) (by omega)]]
    exact hW
  · rw [lkStep_slot (by decide), s5, hn, sum_at (f := iceV M i) (f2 := iceV (lkStep i j rest M) i) (j := j) (d := -v) _ hj (fun y _ hne => hice y hne) hij, ← hI]
    rw [Int32.sub_eq_add_neg, Int32.sub_eq_add_neg, Int32.neg_add, Int32.add_assoc, Int32.sub_eq_add_neg]
  · rw [hn] at hj'
    by_cases e : j' = j
    · subst e
      have d4 : (lkStep i j' rest M).1 (LK i j') 4 = M.1 (LK i j') 4 := by
        unfold lkStep
        rw [up_cell _ _ _ (by omega), thawM_slot (by decide), lk3_slot (by decide)]
      rw [d4, hij]
      refine ⟨(hO j' hj').1, (hO j' hj').2.1, ?_⟩
      have h2 := (hO j' hj').2.2
      obtain ⟨s, hs, hs1, hs2⟩ := ice_nat _ (hV.1 j' hj')
      have h8 := (hL.ln hj').2
      have hvc : v = 0 ∨ (v = 1 ∧ 0 < nLy M i j') := by
        rw [hv]
        unfold thawV
        split
        · exact Or.inl rfl
        · rename_i hc
          exact Or.inr ⟨rfl, Nat.pos_of_ne_zero (fun z => hc (Or.inl z))⟩
      rcases hvc with e | ⟨e, h0⟩
      · rw [e, show -(0 : Int32) = 0 by decide, Int32.add_zero]
        exact h2
      · rw [e]
        rw [show iceV M i j' = nI s from hs] at h2 ⊢
        have e4 : nI s + -1 = nI (s - 1) := (Int32.sub_eq_add_neg _ 1).symm.trans (nI_subN (b := 1) (by omega))
        rw [e4]
        refine Int32.le_trans ?_ h2
        rw [show (2 : Int32) * nI (s - 1) = nI (2 * (s - 1)) from nI_mulN 2 _, show (2 : Int32) * nI s = nI (2 * s) from nI_mulN 2 _]
        exact (nI_leI (by omega) (by omega)).mpr (by omega)
    · rw [show LK i j' = LK i j' + 0 from rfl, hother j' e 0 (by omega), show iceV (lkStep i j rest M) i (j' ) = iceV M i j' from hice j' e]
      exact hO j' hj'
  · have e8 : (lkStep i j rest M).1 (LA i + 8) = (ckM (nI j) (M.1 (LA i) 3) i j (nLy M i j) (lk2 i j rest M) (nLy M i j)).1 (LA i + 8) := by
      unfold lkStep
      rw [up_cell _ _ _ (by omega), thawM_cell (by omega)]
      unfold lk3 ckEnd
      rw [up_cell _ _ _ (by omega)]
    rw [e8]
    refine ckM_pit (lk2_VB (hV.1 j hj) hV.2) (fun y hy => ?_) _ (Nat.le_refl _) y hy
    rw [lk2_cell (by omega)]
    exact hP y hy
theorem XL.lks {M : Mem} {i : Nat} {rest : Bool} (h : XL M i) (hL : LW M i) : ∀ q, q ≤ nLk M i → XL (lksM i rest M q) i
  | 0, _ => h
  | q + 1, hq => by
    obtain ⟨h1, h2⟩ := lks_LW (rest := rest) hL q (by omega)
    exact (XL.lks h hL q (by omega)).step h1 (by omega)
theorem XL.hour {M : Mem} {i : Nat} (h : XL M i) (hL : LW M i) : XL (hourM i M) i := by
  obtain ⟨h1, h2⟩ := hour0_LW hL
  exact (h.hour0 hL.nl5).lks h1 _ (by omega)
theorem XL.hours {M : Mem} {i : Nat} (h : XL M i) (hL : LW M i) : ∀ q, XL (hoursM i M q) i
  | 0 => h
  | q + 1 => (XL.hours h hL q).hour (hours_LW hL q).1
theorem tsum_nat {K T : Nat → Int32} : ∀ N, VB K T N → ∃ s, l_sum T N = 0 - nI s ∧ s ≤ 40 * N
  | 0, _ => ⟨0, rfl, Nat.le_refl 0⟩
  | n + 1, h => by
    obtain ⟨s, h1, h3⟩ := tsum_nat n (fun y hy => h y (by omega))
    obtain ⟨t, ht, e⟩ := off40 (h n (by omega)).2.1 (Int32.le_trans (h n (by omega)).2.2 (by decide))
    have b := (h n (by omega)).2.2
    rw [e] at b
    have G : ∀ t : Fin 61, nI t.1 - 40 ≤ 0 → t.1 ≤ 40 ∧ nI t.1 - 40 = 0 - nI (40 - t.1) := by decide +kernel
    obtain ⟨g1, g2⟩ := G ⟨t, ht⟩ b
    have g1 : t ≤ 40 := g1
    have g2 : nI t - 40 = 0 - nI (40 - t) := g2
    refine ⟨s + (40 - t), ?_, by omega⟩
    show l_sum T n + T n = _
    rw [h1, e, g2, ← nI_add]
    rw [Int32.zero_sub, Int32.zero_sub, Int32.zero_sub, Int32.neg_add, Int32.sub_eq_add_neg]
theorem XL.n32 {M : Mem} (h : XL M 0) (hL : LW M 0) {x : Int32} (hx : inL M x) : vf_n32 (FP.fdiv (FP.i2f (iceV M 0 x.toNatClampNeg)) (FP.i2f (M.1 (LK 0 x.toNatClampNeg) 4))) := by
  obtain ⟨j, hxe, hj, hjc⟩ := idx_j hx (by have := hL.nl5; omega)
  rw [hjc]
  have h8 := (hL.ln hj).2
  obtain ⟨s, hs, _, hs2⟩ := ice_nat _ (h.1.1 j hj)
  obtain ⟨d1, d2, d3⟩ := h.2.2.2.1 j hj
  obtain ⟨b, hb, e⟩ := nI_of (x := M.1 (LK 0 j) 4) (Int32.not_lt.mpr (Int32.le_trans (show (0 : Int32) ≤ 20 by decide) d1))
  rw [show iceV M 0 j = nI s from hs] at d3 ⊢
  rw [e] at d1 d2 d3 ⊢
  have b1 := (nI_leI (a := 20) (by decide) (by omega)).mp d1
  have b2 := (nI_leI (b := 400) (by omega) (by decide)).mp d2
  rw [show (2 : Int32) * nI s = nI (2 * s) from nI_mulN 2 s] at d3
  have b3 := (nI_leI (by omega) (by omega)).mp d3
  exact nn32 (by omega) b1 b2
theorem XL.n64 {M : Mem} (h : XL M 0) (hL : LW M 0) {x : Int32} (hx : inL M x) (h0 : ¬ nLy M 0 x.toNatClampNeg = 0) : vf_n64 (FP.ddiv (FP.i2d (l_sum (M.1 (LK 0 x.toNatClampNeg + 2)) (nLy M 0 x.toNatClampNeg))) (FP.i2d (M.1 (LK 0 x.toNatClampNeg) 3))) := by
  obtain ⟨j, hxe, hj, hjc⟩ := idx_j hx (by have := hL.nl5; omega)
  rw [hjc] at h0 ⊢
  have h8 := (hL.ln hj).2
  obtain ⟨s, hs, hs2⟩ := tsum_nat _ (h.1.1 j hj)
  rw [hs, (hL.ln hj).1]
  exact nn64 (by omega) (by omega) h8
def PL (M : Mem) (i : Nat) : Prop := cOf M i < 16 → wOf M i = cOf M i
def CB (K : Nat) (M : Mem) (i : Nat) : Prop := ∀ j, j < nLk M i → ∃ c, c ≤ K ∧ M.1 (LK i j) 5 = nI c
def XC (K : Nat) (M : Mem) (i : Nat) : Prop := CB K M i ∧ PL M i
theorem PL.cell {M M' : Mem} {i : Nat} (h : PL M i) (he : M'.1 (LA i + 5) = M.1 (LA i + 5)) : PL M' i := by
  unfold PL wOf cOf at h ⊢
  rw [he]
  exact h
theorem XC.mono {K K' : Nat} {M : Mem} {i : Nat} (h : XC K M i) (hK : K ≤ K') : XC K' M i := ⟨fun j hj => by obtain ⟨c, h1, h2⟩ := h.1 j hj; exact ⟨c, by omega, h2⟩, h.2⟩
theorem XC.sm {K : Nat} {M M' : Mem} {i i' : Nat} (h : XC K M i) (hs : Sm M M' i i') : XC K M' i' := by
  refine ⟨fun j hj => ?_, fun hc => ?_⟩
  · rw [hs.nl] at hj
    obtain ⟨c, h1, h2⟩ := h.1 j hj
    exact ⟨c, h1, (hs.k j hj 5 (by omega) (by omega)).trans h2⟩
  · rw [hs.pc] at hc ⊢
    rw [hs.pw]
    exact h.2 hc
theorem XC.keep {K : Nat} {M M' : Mem} {i : Nat} (h : XC K M i) (h5 : nLk M i ≤ 5) (h1 : M'.1 (LA i) 1 = M.1 (LA i) 1) (h2 : ∀ j, j < 5 → M'.1 (LK i j) 5 = M.1 (LK i j) 5) (h3 : M'.1 (LA i + 5) = M.1 (LA i + 5)) : XC K M' i := by
  have e : nLk M' i = nLk M i := by unfold nLk; rw [h1]
  refine ⟨fun j hj => ?_, h.2.cell h3⟩
  rw [e] at hj
  obtain ⟨c, a, b⟩ := h.1 j hj
  exact ⟨c, a, (h2 j (by omega)).trans b⟩
theorem XC.air {K : Nat} {M : Mem} {i : Nat} {t : Int32} (h : XC K M i) (h5 : nLk M i ≤ 5) : XC K (up M (LA i) 2 t) i := by
  refine h.keep h5 (up_slot _ _ _ (by decide)) (fun j hj => ?_) (up_cell _ _ _ (by omega))
  have := LK_ge i j
  rw [up_cell _ _ _ (by omega)]
theorem XC.ins {K : Nat} {M : Mem} {i n : Nat} {x z : Int32} (h : XC K M i) (h5 : nLk M i ≤ 5) : XC K (insM i n x z M) i := by
  refine h.keep h5 (by rw [insM_cell (by omega)]) (fun j hj => ?_) (insM_cell (by omega))
  have := LK_ge i j
  rw [insM_cell (by omega)]
theorem XC.rm {K : Nat} {M : Mem} {i n a : Nat} (h : XC K M i) (h5 : nLk M i ≤ 5) : XC K (rmM i n a M) i := by
  refine h.keep h5 (by rw [rmM_cell (by omega)]) (fun j hj => ?_) (rmM_cell (by omega))
  have := LK_ge i j
  rw [rmM_cell (by omega)]
theorem XC.grow {K : Nat} {M : Mem} {i j : Nat} {t te : Int32} (h : XC K M i) (h5 : nLk M i ≤ 5) : XC K (growM i j t te M) i := by
  have hg := LK_ge i j
  refine h.keep h5 ?_ (fun j' hj => ?_) (growM_cell (by omega) (by omega))
  · unfold growM
    rw [up_cell _ _ _ (by omega), up_cell _ _ _ (by omega), up_cell _ _ _ (by omega), up_cell _ _ _ (by omega), up_slot _ _ _ (by decide)]
  · have hg' := LK_ge i j'
    have e1 : LK i j = LA i + 10 + 4 * j := rfl
    have e2 : LK i j' = LA i + 10 + 4 * j' := rfl
    unfold growM
    rw [up_nf _ _ (Or.inr (by decide)), up_cell _ _ _ (by omega), up_cell _ _ _ (by omega), up_cell _ _ _ (by omega), up_cell _ _ _ (by omega)]
theorem XC.place {K : Nat} {M : Mem} {i : Nat} {d : Int32} (h : XC K M i) (h5 : nLk M i < 5) : XC K (placeM i d M) i := by
  have hg := LK_ge i (nLk M i)
  have hn : nLk (placeM i d M) i = nLk M i + 1 := by
    unfold placeM
    show ((up _ (LA i) 1 (nI (nLk M i + 1))).1 (LA i) 1).toNatClampNeg = _
    rw [up_same, nI_clamp (by omega)]
  refine ⟨fun j hj => ?_, h.2.cell (placeM_cell (by omega) (by omega))⟩
  rw [hn] at hj
  by_cases e : j = nLk M i
  · subst e
    refine ⟨0, Nat.zero_le _, ?_⟩
    unfold placeM
    rw [up_cell _ _ _ (by omega), up_same]
    rfl
  · obtain ⟨c, a, b⟩ := h.1 j (by omega)
    have e1 : LK i j = LA i + 10 + 4 * j := rfl
    have e2 : LK i (nLk M i) = LA i + 10 + 4 * nLk M i := rfl
    exact ⟨c, a, by rw [placeM_cell (by omega) (by omega)]; exact b⟩
theorem PL.rec {M : Mem} {i : Nat} {kd lk pt hr : Int32} (h : PL M i) (hP : PR M i (wOf M i) (cOf M i)) : PL (recM i (wOf M i) (cOf M i) kd lk pt hr M) i := by
  obtain ⟨p1, p2, p3, p4⟩ := recM_PR (i := i) (w := wOf M i) (cn := cOf M i) (kd := kd) (lk := lk) (pt := pt) (hr := hr) (m := M)
  have hw := hP.2.1
  have hc := hP.2.2.2
  have ew : wOf (recM i (wOf M i) (cOf M i) kd lk pt hr M) i = (wOf M i + 1) % 16 := by
    unfold wOf at p1 p2 ⊢
    rw [p1, nI_clamp (by omega)]
  have ec : cOf (recM i (wOf M i) (cOf M i) kd lk pt hr M) i = min (cOf M i + 1) 16 := by
    unfold cOf at p3 p4 ⊢
    rw [p3, nI_clamp (by omega)]
  intro hlt
  rw [ec] at hlt ⊢
  rw [ew]
  have := h (by omega)
  omega
theorem XC.ring {K : Nat} {M : Mem} {i j y : Nat} (h : XC K M i) (hL : LW M i) : XC K (ringM i j y M) i := by
  have hn : nLk (ringM i j y M) i = nLk M i := by unfold nLk ringM; rw [recM_cell (by omega)]
  refine ⟨fun j' hj => ?_, h.2.rec hL.2.2.2.1⟩
  rw [hn] at hj
  obtain ⟨c, a, b⟩ := h.1 j' hj
  have := LK_ge i j'
  exact ⟨c, a, by unfold ringM; rw [recM_cell (by omega)]; exact b⟩
theorem ckM_PL {num hr : Int32} {i j N : Nat} {M : Mem} (hP : PR M i (wOf M i) (cOf M i)) (h : PL M i) : ∀ q, PR (ckM num hr i j N M q) i (wOf (ckM num hr i j N M q) i) (cOf (ckM num hr i j N M q) i) ∧ PL (ckM num hr i j N M q) i
  | 0 => ⟨hP, h⟩
  | q + 1 => by
    obtain ⟨h1, h2⟩ := ckM_PL hP h q
    have hg := LK_ge i j
    show PR (ckStep num hr i j N q (ckM num hr i j N M q)) i (wOf (ckStep num hr i j N q (ckM num hr i j N M q)) i) (cOf (ckStep num hr i j N q (ckM num hr i j N M q)) i) ∧ PL (ckStep num hr i j N q (ckM num hr i j N M q)) i
    obtain ⟨m, hm⟩ : ∃ m, m = ckM num hr i j N M q := ⟨_, rfl⟩
    rw [← hm] at h1 h2 ⊢
    unfold ckStep
    split
    · have e : (pushM i j N (nI (q + 1)) (pushM i j N (nI q - 1) (up (recM i (wOf m i) (cOf m i) 99 num (ckPitch m i j q) hr m) (LK i j + 3) q 0))).1 (LA i + 5) = (recM i (wOf m i) (cOf m i) 99 num (ckPitch m i j q) hr m).1 (LA i + 5) := by
        rw [pushM_cell (by omega), pushM_cell (by omega), up_cell _ _ _ (by omega)]
      refine ⟨?_, (h2.rec h1).cell e⟩
      have hp := recM_PR (i := i) (w := wOf m i) (cn := cOf m i) (kd := 99) (lk := num) (pt := ckPitch m i j q) (hr := hr) (m := m)
      generalize pushM i j N (nI (q + 1)) (pushM i j N (nI q - 1) (up (recM i (wOf m i) (cOf m i) 99 num (ckPitch m i j q) hr m) (LK i j + 3) q 0)) = X at e ⊢
      obtain ⟨p1, p2, p3, p4⟩ := hp
      have a1 := (congrFun e 5).trans p1
      have a2 := (congrFun e 4).trans p3
      have w1 : wOf X i = (wOf m i + 1) % 16 := by
        show (X.1 (LA i + 5) 5).toNatClampNeg = _
        rw [a1, nI_clamp (by omega)]
      have w2 : cOf X i = min (cOf m i + 1) 16 := by
        show (X.1 (LA i + 5) 4).toNatClampNeg = _
        rw [a2, nI_clamp (by omega)]
      rw [w1, w2]
      exact ⟨a1, p2, a2, p4⟩
    · exact ⟨h1, h2⟩
theorem lkStep_crk {M : Mem} {i j : Nat} {rest : Bool} : (lkStep i j rest M).1 (LK i j) 5 = M.1 (LK i j) 5 + nI (lkN i j rest M) := by
  have hg := LK_ge i j
  unfold lkStep
  rw [up_cell _ _ _ (by omega), thawM_slot (by decide)]
  unfold lk3 ckEnd
  rw [up_same, (ckM_facts _).2.2.2, lk2_cell (by omega)]
  rfl
theorem XC.step {K : Nat} {M : Mem} {i j : Nat} {rest : Bool} (h : XC K M i) (hL : LW M i) (hj : j < nLk M i) (K' : Nat) (hK : K ≤ K') (hj8 : ∃ c, c + 8 ≤ K' ∧ M.1 (LK i j) 5 = nI c) : (∀ j', j' < nLk M i → ∃ c, c ≤ K' ∧ (lkStep i j rest M).1 (LK i j') 5 = nI c) ∧ PL (lkStep i j rest M) i := by
  have hg := LK_ge i j
  have h8 := lkN_le i j rest M (hL.ln hj).2
  refine ⟨fun j' hj' => ?_, ?_⟩
  · by_cases e : j' = j
    · subst e
      obtain ⟨c, c1, c2⟩ := hj8
      exact ⟨c + lkN i j' rest M, by omega, by rw [lkStep_crk, c2, nI_add]⟩
    · obtain ⟨c, c1, c2⟩ := h.1 j' hj'
      have e1 : LK i j = LA i + 10 + 4 * j := rfl
      have e2 : LK i j' = LA i + 10 + 4 * j' := rfl
      exact ⟨c, by omega, by rw [lkStep_cell (by omega) (by omega) (by omega)]; exact c2⟩
  · have e2 : (lk2 i j rest M).1 (LA i + 5) = M.1 (LA i + 5) := lk2_cell (by omega)
    have hP : PR (lk2 i j rest M) i (wOf (lk2 i j rest M) i) (cOf (lk2 i j rest M) i) := by
      unfold PR wOf cOf
      rw [e2]
      exact hL.2.2.2.1
    refine (ckM_PL (num := nI j) (hr := M.1 (LA i) 3) (N := nLy M i j) (j := j) hP (h.2.cell e2) (nLy M i j)).2.cell ?_
    unfold lkStep
    rw [up_cell _ _ _ (by omega), thawM_cell (by omega)]
    unfold lk3 ckEnd
    rw [up_cell _ _ _ (by omega)]
theorem XC.lks {K : Nat} {M : Mem} {i : Nat} {rest : Bool} (h : XC K M i) (hL : LW M i) : ∀ q, q ≤ nLk M i → (∀ j, j < nLk M i → ∃ c, c ≤ (if j < q then K + 8 else K) ∧ (lksM i rest M q).1 (LK i j) 5 = nI c) ∧ PL (lksM i rest M q) i
  | 0, _ => ⟨fun j hj => by rw [if_neg (by omega)]; exact h.1 j hj, h.2⟩
  | q + 1, hq => by
    obtain ⟨h1, h2⟩ := lks_LW (rest := rest) hL q (by omega)
    obtain ⟨i1, i2⟩ := XC.lks (rest := rest) h hL q (by omega)
    have hX : XC (K + 8) (lksM i rest M q) i := ⟨fun j hj => by
      rw [h2] at hj
      obtain ⟨c, c1, c2⟩ := i1 j hj
      exact ⟨c, by split at c1 <;> omega, c2⟩, i2⟩
    have hcq : ∃ c, c + 8 ≤ K + 8 ∧ (lksM i rest M q).1 (LK i q) 5 = nI c := by
      obtain ⟨c, c1, c2⟩ := i1 q (by omega)
      rw [if_neg (by omega)] at c1
      exact ⟨c, by omega, c2⟩
    obtain ⟨s1, s2⟩ := hX.step (rest := rest) h1 (j := q) (by omega) (K + 8) (by omega) hcq
    refine ⟨fun j hj => ?_, s2⟩
    by_cases e : j < q + 1
    · rw [if_pos e]
      exact s1 j (by omega)
    · rw [if_neg e]
      obtain ⟨c, c1, c2⟩ := i1 j hj
      rw [if_neg (by omega)] at c1
      have hg := LK_ge i q
      have e1 : LK i j = LA i + 10 + 4 * j := rfl
      have e2 : LK i q = LA i + 10 + 4 * q := rfl
      refine ⟨c, c1, ?_⟩
      show (lkStep i q rest (lksM i rest M q)).1 (LK i j) 5 = nI c
      rw [lkStep_cell (by omega) (by omega) (by omega)]
      exact c2
theorem XC.hour {K : Nat} {M : Mem} {i : Nat} (h : XC K M i) (hL : LW M i) : XC (K + 8) (hourM i M) i := by
  obtain ⟨h1, h2⟩ := hour0_LW hL
  have h0 : XC K (hourM0 i M) i := h.keep hL.nl5 (up_slot _ _ _ (by decide)) (fun j hj => by have := LK_ge i j; exact congrFun (up_cell _ _ _ (by omega)) 5) (up_cell _ _ _ (by omega))
  obtain ⟨i1, i2⟩ := h0.lks (rest := restB i (hourM0 i M)) h1 (nLk M i) (by omega)
  have e := (lks_LW (rest := restB i (hourM0 i M)) h1 (nLk M i) (by omega)).2
  refine ⟨fun j hj => ?_, i2⟩
  have hj2 : j < nLk M i := by
    have : nLk (hourM i M) i = nLk (hourM0 i M) i := e
    omega
  obtain ⟨c, c1, c2⟩ := i1 j (by omega)
  rw [if_pos hj2] at c1
  exact ⟨c, c1, c2⟩
theorem XC.hours {K : Nat} {M : Mem} {i : Nat} (h : XC K M i) (hL : LW M i) : ∀ q, XC (K + 8 * q) (hoursM i M q) i
  | 0 => h
  | q + 1 => (show K + 8 * (q + 1) = K + 8 * q + 8 by omega) ▸ (XC.hours h hL q).hour (hours_LW hL q).1
theorem nI_toI {n : Nat} (h : n < 2147483648) : (nI n).toInt = n := by
  unfold nI
  exact Int32.toInt_ofNat_of_lt h
theorem nI_inj' {a b : Nat} (ha : a < 1073741824) (hb : b < 1073741824) : nI a = nI b ↔ a = b := by
  rw [← Int32.toInt_inj, nI_toI (by omega), nI_toI (by omega)]
  omega
theorem nI_lt' {a b : Nat} (ha : a < 1073741824) (hb : b < 1073741824) : nI a < nI b ↔ a < b := by
  rw [Int32.lt_iff_toInt_lt, nI_toI (by omega), nI_toI (by omega)]
  omega
abbrev bfP (S C : Nat → Nat) (b a : Nat) : Prop := S a < S b ∨ (S b = S a ∧ (C a < C b ∨ (C b = C a ∧ b < a)))
def cntB (f : Nat → Bool) : Nat → Nat | 0 => 0 | n + 1 => cntB f n + if f n = true then 1 else 0
theorem cntB_mono {f h : Nat → Bool} : ∀ n, (∀ b, b < n → f b = true → h b = true) → cntB f n ≤ cntB h n
  | 0, _ => Nat.le_refl 0
  | n + 1, e => by
    have := cntB_mono n (fun b hb => e b (by omega))
    have e2 := e n (by omega)
    show cntB f n + (if f n = true then 1 else 0) ≤ cntB h n + (if h n = true then 1 else 0)
    by_cases hf : f n = true
    · rw [if_pos hf, if_pos (e2 hf)]; omega
    · rw [if_neg hf]; omega
theorem cntB_strict {f h : Nat → Bool} {a : Nat} : ∀ n, (∀ b, b < n → f b = true → h b = true) → a < n → f a = false → h a = true → cntB f n < cntB h n
  | 0, _, h, _, _ => absurd h (by omega)
  | n + 1, e, hn, hf, hh => by
    have e2 := e n (by omega)
    show cntB f n + (if f n = true then 1 else 0) < cntB h n + (if h n = true then 1 else 0)
    by_cases ea : a = n
    · rw [← ea, if_neg (by rw [hf]; decide), if_pos hh, ea]
      have := cntB_mono n (fun b hb => e b (by omega))
      omega
    · have := cntB_strict n (fun b hb => e b (by omega)) (by omega) hf hh
      by_cases hfn : f n = true
      · rw [if_pos hfn, if_pos (e2 hfn)]; omega
      · rw [if_neg hfn]; omega
theorem bf_inj {S C : Nat → Nat} {n a a' : Nat} (ha : a < n) (ha' : a' < n) (h : cntB (fun b => decide (bfP S C b a)) n = cntB (fun b => decide (bfP S C b a')) n) : a = a' := by
  have key : ∀ x y, x < n → bfP S C x y → cntB (fun b => decide (bfP S C b x)) n < cntB (fun b => decide (bfP S C b y)) n := fun x y hx hxy =>
    cntB_strict (a := x) n (fun b _ hb => decide_eq_true (by have := of_decide_eq_true hb; unfold bfP at *; omega)) hx (decide_eq_false (by unfold bfP; omega)) (decide_eq_true hxy)
  by_cases e : a = a'
  · exact e
  · have : bfP S C a a' ∨ bfP S C a' a := by unfold bfP; omega
    rcases this with h1 | h1
    · have := key _ _ ha h1; omega
    · have := key _ _ ha' h1; omega
theorem firstI_un {p : Nat → Bool} {q : Nat} (hu : ∀ a, a < q → p a = true → p q = false) : firstI p (q + 1) = if p q = true then nI q else firstI p q := by
  have hn : ∀ q, (∀ a, a < q → p a = false) → firstI p q = -1 := by
    intro q
    induction q with
    | zero => intro _; rfl
    | succ q ih =>
      intro h
      show (if firstI p q = -1 then (if p q = true then nI q else -1) else firstI p q) = -1
      rw [if_pos (ih (fun a ha => h a (by omega))), if_neg (by rw [h q (by omega)]; decide)]
  show (if firstI p q = -1 then (if p q = true then nI q else -1) else firstI p q) = _
  by_cases hp : p q = true
  · have h0 : firstI p q = -1 := hn q (fun a ha => by
      cases hb : p a
      · rfl
      · have := hu a ha hb
        rw [hp] at this
        exact absurd this (by decide))
    rw [if_pos h0, if_pos hp, if_pos hp]
  · rw [if_neg hp, if_neg hp]
    by_cases h0 : firstI p q = -1
    · rw [if_pos h0, h0]
    · rw [if_neg h0]
def sN (F : Nat → Nat) : Nat → Nat | 0 => 0 | n + 1 => sN F n + F n
theorem sN_eq {F G : Nat → Nat} : ∀ n, (∀ p, p < n → G p = F p) → sN G n = sN F n
  | 0, _ => rfl
  | n + 1, h => by show sN G n + G n = sN F n + F n; rw [sN_eq n (fun p hp => h p (by omega)), h n (by omega)]
theorem sN_at {F G : Nat → Nat} {p0 d : Nat} : ∀ n, p0 < n → (∀ p, p < n → p ≠ p0 → G p = F p) → G p0 = F p0 + d → sN G n = sN F n + d
  | 0, h, _, _ => absurd h (by omega)
  | n + 1, h, ho, hd => by
    show sN G n + G n = sN F n + F n + d
    by_cases e : p0 = n
    · rw [sN_eq (F := F) n (fun p hp => ho p (by omega) (by omega)), ← e, hd]; omega
    · rw [sN_at n (by omega) (fun p hp => ho p (by omega)) hd, ho n (by omega) (by omega)]; omega
def tri2 (k : Nat) : Nat := k * (k - 1) / 2
theorem tri2_s (k : Nat) : tri2 (k + 1) = tri2 k + k := by
  unfold tri2
  cases k with
  | zero => rfl
  | succ k =>
    show (k + 1 + 1) * (k + 1) / 2 = (k + 1) * k / 2 + (k + 1)
    have : (k + 1 + 1) * (k + 1) = (k + 1) * k + (k + 1) * 2 := by rw [← Nat.mul_add, Nat.mul_comm]
    rw [this, Nat.add_mul_div_right _ _ (by decide)]
def echN (h : Nat → Int32) : Nat → Nat | 0 => 0 | n + 1 => echN h n + cntEq h (h n) n
def difN (h : Nat → Int32) : Nat → Nat | 0 => 0 | n + 1 => difN h n + if cntEq h (h n) n = 0 then 1 else 0
def inR (h : Nat → Int32) (n : Nat) : Prop := ∀ r, r < n → ∃ p, p < 141 ∧ h r = nI p
theorem cntEq_s (h : Nat → Int32) (x : Int32) (n : Nat) : cntEq h x (n + 1) = cntEq h x n + if x = h n then 1 else 0 := rfl
theorem nI_ne {a b : Nat} (ha : a < 1000000) (hb : b < 1000000) (h : a ≠ b) : nI a ≠ nI b := fun z => h ((nI_inj' (by omega) (by omega)).mp z)
theorem ech_tri {h : Nat → Int32} : ∀ n, inR h n → echN h n = sN (fun p => tri2 (cntEq h (nI p) n)) 141
  | 0, _ => by
    have : ∀ n, sN (fun p => tri2 (cntEq h (nI p) 0)) n = 0 := by
      intro n
      induction n with
      | zero => rfl
      | succ n ih => show sN _ n + tri2 0 = 0; rw [ih]; rfl
    exact (this 141).symm
  | n + 1, hr => by
    obtain ⟨p0, hp0, e0⟩ := hr n (by omega)
    show echN h n + cntEq h (h n) n = _
    rw [ech_tri n (fun r hr' => hr r (by omega)), e0]
    refine (sN_at (p0 := p0) 141 hp0 (fun p hp hne => ?_) ?_).symm
    · show tri2 (cntEq h (nI p) (n + 1)) = tri2 (cntEq h (nI p) n)
      rw [cntEq_s, e0, if_neg (nI_ne (by omega) (by omega) hne), Nat.add_zero]
    · show tri2 (cntEq h (nI p0) (n + 1)) = tri2 (cntEq h (nI p0) n) + _
      rw [cntEq_s, e0, if_pos rfl, tri2_s]
theorem difN_pos {h : Nat → Int32} : ∀ n, inR h n → difN h n = sN (fun p => if 0 < cntEq h (nI p) n then 1 else 0) 141
  | 0, _ => by
    have : ∀ n, sN (fun p => if 0 < cntEq h (nI p) 0 then 1 else 0) n = 0 := by
      intro n
      induction n with
      | zero => rfl
      | succ n ih => show sN _ n + (if 0 < 0 then 1 else 0) = 0; rw [ih]; rfl
    exact (this 141).symm
  | n + 1, hr => by
    obtain ⟨p0, hp0, e0⟩ := hr n (by omega)
    show difN h n + (if cntEq h (h n) n = 0 then 1 else 0) = _
    rw [difN_pos n (fun r hr' => hr r (by omega)), e0]
    refine (sN_at (p0 := p0) 141 hp0 (fun p hp hne => ?_) ?_).symm
    · show (if 0 < cntEq h (nI p) (n + 1) then 1 else 0) = if 0 < cntEq h (nI p) n then 1 else 0
      rw [cntEq_s, e0, if_neg (nI_ne (by omega) (by omega) hne), Nat.add_zero]
    · show (if 0 < cntEq h (nI p0) (n + 1) then 1 else 0) = (if 0 < cntEq h (nI p0) n then 1 else 0) + _
      rw [cntEq_s, e0, if_pos rfl, if_pos (by omega)]
      by_cases c : cntEq h (nI p0) n = 0
      · rw [if_neg (by omega), if_pos c]
      · rw [if_pos (by omega), if_neg c]
theorem pairs_more {f : Nat → Int32} {c : Nat} : ∀ i, i ≤ c → pairsN f (c + 1) i = pairsN f c i + cntEq f (f c) i
  | 0, _ => rfl
  | i + 1, hi => by
    show pairsN f (c + 1) i + (cntEq f (f i) (c + 1) - cntEq f (f i) (i + 1)) = pairsN f c i + (cntEq f (f i) c - cntEq f (f i) (i + 1)) + (cntEq f (f c) i + if f c = f i then 1 else 0)
    rw [pairs_more i (by omega), cntEq_s f (f i) c]
    have hm : cntEq f (f i) (i + 1) ≤ cntEq f (f i) c := cntEq_mono f (f i) (a := i + 1) (n := c) (by omega)
    by_cases e : f c = f i
    · rw [if_pos e, if_pos e.symm]; omega
    · rw [if_neg e, if_neg (fun z => e z.symm)]; omega
theorem pairs_ech {f : Nat → Int32} : ∀ c, pairsN f c c = echN f c
  | 0 => rfl
  | c + 1 => by
    show pairsN f (c + 1) c + (cntEq f (f c) (c + 1) - cntEq f (f c) (c + 1)) = echN f c + cntEq f (f c) c
    rw [pairs_more c (Nat.le_refl c), pairs_ech c, Nat.sub_self, Nat.add_zero]
theorem cntEq_add (f : Nat → Int32) (x : Int32) (a : Nat) : ∀ b, cntEq f x (a + b) = cntEq f x a + cntEq (fun k => f (a + k)) x b
  | 0 => rfl
  | b + 1 => by
    show cntEq f x (a + b) + (if x = f (a + b) then 1 else 0) = cntEq f x a + (cntEq (fun k => f (a + k)) x b + if x = f (a + b) then 1 else 0)
    rw [cntEq_add f x a b]; omega
theorem cntEq_rev {x : Int32} : ∀ (n : Nat) (f h : Nat → Int32), (∀ k, k < n → h k = f (n - 1 - k)) → cntEq h x n = cntEq f x n
  | 0, _, _, _ => rfl
  | n + 1, f, h, e => by
    have h1 := cntEq_add f x 1 n
    have h2 : cntEq h x n = cntEq (fun k => f (1 + k)) x n := cntEq_rev n _ h (fun k hk => by
      rw [e k (by omega)]
      show f (n + 1 - 1 - k) = f (1 + (n - 1 - k))
      congr 1
      omega)
    rw [Nat.add_comm n 1, h1, Nat.add_comm 1 n, cntEq_s, h2, e n (by omega), show n + 1 - 1 - n = 0 by omega]
    show _ = (0 + if x = f 0 then 1 else 0) + _
    omega
/-- the recencies' order against the places' -/
theorem ring_cnt {f h : Nat → Int32} {x : Int32} {w c : Nat} (hw : w < 16) (hc : c ≤ 16) (hwc : c < 16 → w = c) (e : ∀ q, q < c → h q = f ((w + 15 - q) % 16)) : cntEq h x c = cntEq f x c := by
  by_cases h16 : c = 16
  · subst h16
    have a1 := cntEq_add h x w (16 - w)
    have a2 := cntEq_add f x w (16 - w)
    rw [show w + (16 - w) = 16 by omega] at a1 a2
    rw [a1, a2]
    rw [cntEq_rev w f h (fun k hk => by rw [e k (by omega)]; congr 1; omega)]
    rw [cntEq_rev (16 - w) (fun k => f (w + k)) (fun k => h (w + k)) (fun k hk => by
      show h (w + k) = f (w + (16 - w - 1 - k))
      rw [e (w + k) (by omega)]; congr 1; omega)]
  · have := hwc (by omega)
    subst this
    exact cntEq_rev w f h (fun k hk => by rw [e k hk]; congr 1; omega)
theorem cntPos_sN {F : Nat → Nat} : ∀ n, (∀ p, p < n → F p < 1000000) → cntPos (fun p => nI (F p)) n = sN (fun p => if 0 < F p then 1 else 0) n
  | 0, _ => rfl
  | n + 1, h => by
    show cntPos (fun p => nI (F p)) n + (if 0 < nI (F n) then 1 else 0) = sN (fun p => if 0 < F p then 1 else 0) n + (if 0 < F n then 1 else 0)
    rw [cntPos_sN n (fun p hp => h p (by omega))]
    have hb := h n (by omega)
    have q : (0 < nI (F n)) ↔ 0 < F n := nI_lt' (a := 0) (by decide) (by omega)
    by_cases c : 0 < F n
    · rw [if_pos c, if_pos (q.mpr c)]
    · rw [if_neg c, if_neg (fun z => c (q.mp z))]
theorem half_tri {k : Nat} (h : k ≤ 16) : nI k * (nI k - 1) / 2 = nI (tri2 k) := by
  have q : ∀ k, k ≤ 16 → nI k * (nI k - 1) / 2 = nI (tri2 k) := by decide +kernel
  exact q k h
theorem sum_tri {F : Nat → Nat} : ∀ n, (∀ p, p < n → F p ≤ 16) → l_sum (fun p => nI (F p) * (nI (F p) - 1) / 2) n = nI (sN (fun p => tri2 (F p)) n)
  | 0, _ => rfl
  | n + 1, h => by
    show l_sum (fun p => nI (F p) * (nI (F p) - 1) / 2) n + nI (F n) * (nI (F n) - 1) / 2 = nI (sN (fun p => tri2 (F p)) n + tri2 (F n))
    rw [sum_tri n (fun p hp => h p (by omega)), half_tri (h n (by omega)), nI_add]
theorem rk_bf {M : Mem} {i n : Nat} {S C : Nat → Nat} {K : Nat} (hK : K ≤ 1000000000) (hS : ∀ j, j < n → iceV M i j = nI (S j) ∧ S j ≤ 400) (hC : ∀ j, j < n → M.1 (LK i j) 5 = nI (C j) ∧ C j ≤ K) {a b : Nat} (ha : a < n) (hb : b < n) : (decide (b ≠ a) && rkB M i b a) = decide (bfP S C b a) := by
  obtain ⟨sa, sa4⟩ := hS a ha
  obtain ⟨sb, sb4⟩ := hS b hb
  obtain ⟨ca, cak⟩ := hC a ha
  obtain ⟨cb, cbk⟩ := hC b hb
  unfold rkB
  rw [sa, sb, ca, cb, Bool.eq_iff_iff, Bool.and_eq_true, decide_eq_true_eq, decide_eq_true_eq]
  have e1 := nI_inj' (a := S b) (b := S a) (by omega) (by omega)
  have e2 := nI_inj' (a := C b) (b := C a) (by omega) (by omega)
  have l1 := nI_lt' (a := S a) (b := S b) (by omega) (by omega)
  have l2 := nI_lt' (a := C a) (b := C b) (by omega) (by omega)
  by_cases h1 : S b = S a
  · rw [if_pos (e1.mpr h1)]
    by_cases h2 : C b = C a
    · rw [if_pos (e2.mpr h2), decide_eq_true_eq]
      unfold bfP
      omega
    · rw [if_neg (fun z => h2 (e2.mp z)), decide_eq_true_eq, l2]
      unfold bfP
      constructor
      · intro h; omega
      · intro h
        refine ⟨fun z => h2 (by rw [z]), by omega⟩
  · rw [if_neg (fun z => h1 (e1.mp z)), decide_eq_true_eq, l1]
    unfold bfP
    constructor
    · intro h; omega
    · intro h
      refine ⟨fun z => h1 (by rw [z]), by omega⟩
theorem rank_bf {M : Mem} {i n : Nat} {S C : Nat → Nat} {K : Nat} (hK : K ≤ 1000000000) (hS : ∀ j, j < n → iceV M i j = nI (S j) ∧ S j ≤ 400) (hC : ∀ j, j < n → M.1 (LK i j) 5 = nI (C j) ∧ C j ≤ K) {a : Nat} (ha : a < n) : ∀ q, q ≤ n → rankN M i a q = cntB (fun b => decide (bfP S C b a)) q
  | 0, _ => rfl
  | q + 1, hq => by
    show rankN M i a q + (if (decide (q ≠ a) && rkB M i q a) = true then 1 else 0) = cntB (fun b => decide (bfP S C b a)) q + (if decide (bfP S C q a) = true then 1 else 0)
    rw [rank_bf hK hS hC ha q (by omega), rk_bf hK hS hC ha (by omega)]
/-- the recencies' pitches -/
def pit (M : Mem) (i q : Nat) : Int32 := M.1 (LA i + 8) (psl M i q)
theorem pit_cnt {M : Mem} {i : Nat} (hP : PR M i (wOf M i) (cOf M i)) (hL : PL M i) (x : Int32) : cntEq (pit M i) x (cOf M i) = cntEq (M.1 (LA i + 8)) x (cOf M i) :=
  ring_cnt hP.2.1 hP.2.2.2 hL (fun q _ => rfl)
theorem pit_in {M : Mem} {i : Nat} (h : ∀ y, y < 16 → 0 ≤ M.1 (LA i + 8) y ∧ M.1 (LA i + 8) y ≤ 140) : (∀ n, inR (pit M i) n) ∧ ∀ n, n ≤ 16 → inR (M.1 (LA i + 8)) n := by
  have q : ∀ y, y < 16 → ∃ p, p < 141 ∧ M.1 (LA i + 8) y = nI p := fun y hy => by
    obtain ⟨h1, h2⟩ := h y hy
    obtain ⟨p, hp, e⟩ := nI_of (Int32.not_lt.mpr h1)
    rw [e] at h2
    exact ⟨p, by have := (nI_leI (b := 140) (by omega) (by decide)).mp h2; omega, e⟩
  exact ⟨fun n r _ => q _ (Nat.mod_lt _ (by decide)), fun n hn r hr => q r (by omega)⟩
theorem ech_pairs {M : Mem} {i : Nat} (hP : PR M i (wOf M i) (cOf M i)) (hL : PL M i) (h : ∀ y, y < 16 → 0 ≤ M.1 (LA i + 8) y ∧ M.1 (LA i + 8) y ≤ 140) : echN (pit M i) (cOf M i) = pairsN (M.1 (LA i + 8)) (cOf M i) (cOf M i) ∧ difN (pit M i) (cOf M i) = cntPos (fun p => nI (cntEq (M.1 (LA i + 8)) (nI p) (cOf M i))) 141 ∧ l_sum (fun p => nI (cntEq (M.1 (LA i + 8)) (nI p) (cOf M i)) * (nI (cntEq (M.1 (LA i + 8)) (nI p) (cOf M i)) - 1) / 2) 141 = nI (pairsN (M.1 (LA i + 8)) (cOf M i) (cOf M i)) := by
  obtain ⟨i1, i2⟩ := pit_in h
  have hc := hP.2.2.2
  have hle : ∀ x, cntEq (M.1 (LA i + 8)) x (cOf M i) ≤ 16 := fun x => Nat.le_trans (cntEq_le _ _ _) hc
  refine ⟨?_, ?_, ?_⟩
  · rw [ech_tri _ (i1 _), pairs_ech, ech_tri _ (i2 _ hc)]
    exact sN_eq _ (fun p _ => by show tri2 _ = tri2 _; rw [pit_cnt hP hL])
  · rw [difN_pos _ (i1 _), cntPos_sN _ (fun p _ => by have := hle (nI p); omega)]
    exact sN_eq _ (fun p _ => by show (if _ then 1 else 0) = if _ then 1 else 0; rw [pit_cnt hP hL])
  · rw [sum_tri _ (fun p _ => hle (nI p)), pairs_ech, ech_tri _ (i2 _ hc)]
theorem csB_ok {M : Mem} (hL : LW M 0) (hX : XL M 0) (hC : PL M 0) : csB M := by
  refine ⟨(ech_pairs hL.2.2.2.1 hC hX.2.2.2.2).2.2.symm, ?_⟩
  have hla : LA 0 = 1 := rfl
  have hc : ∀ k, k ≠ 362 → (tlyM M).1 k = M.1 k := fun k h => setRow_cell _ _ h
  have en : nLk (tlyM M) 0 = nLk M 0 := by unfold nLk; rw [hc _ (by omega)]
  rw [hc _ (by omega), en, hX.2.2.1]
  refine (sum_eq _ (fun y hy => ?_)).symm
  have h5 := hL.nl5
  have hlk : LK 0 y = LA 0 + 10 + 4 * y := rfl
  unfold iceV nLy
  rw [hc _ (by omega), hc _ (by omega)]
theorem XC.rem {K : Nat} {m : Mem} (hI : CI m) (h : XC K m 0) : XC K (rem m) 0 := h.sm ((rem_agr hI.1 (by omega)).sm hI.1.nl5)
