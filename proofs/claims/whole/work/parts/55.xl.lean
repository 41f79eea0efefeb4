/-! what a landscape's values keep, under every change -/
theorem sum_at {f f2 : Nat → Int32} {j : Nat} {d : Int32} : ∀ n, j < n → (∀ y, y < n → y ≠ j → f2 y = f y) → f2 j = f j + d → l_sum f2 n = l_sum f n + d
  | 0, h, _, _ => absurd h (by omega)
  | n + 1, h, ho, hd => by
    show l_sum f2 n + f2 n = l_sum f n + f n + d
    by_cases e : n = j
    · subst e
      rw [hd, sum_eq n (fun y hy => ho y (by omega) (by omega)), Int32.add_assoc]
    · rw [ho n (by omega) e, sum_at n (by omega) (fun y hy hne => ho y (by omega) hne) hd, Int32.add_assoc, Int32.add_assoc, Int32.add_comm d]
theorem sum_shift {f : Nat → Int32} : ∀ n, l_sum f (n + 1) = f 0 + l_sum (fun y => f (y + 1)) n
  | 0 => by show 0 + f 0 = f 0 + 0; rw [Int32.zero_add, Int32.add_zero]
  | n + 1 => by
    show l_sum f (n + 1) + f (n + 1) = f 0 + (l_sum (fun y => f (y + 1)) n + f (n + 1))
    rw [sum_shift n, Int32.add_assoc]
theorem ice_nat {K T : Nat → Int32} : ∀ N, VB K T N → ∃ s, l_sum K N = nI s ∧ N ≤ s ∧ s ≤ 50 * N
  | 0, _ => ⟨0, rfl, Nat.le_refl 0, Nat.le_refl 0⟩
  | n + 1, h => by
    obtain ⟨s, h1, h2, h3⟩ := ice_nat n (fun y hy => h y (by omega))
    obtain ⟨k, hk, e⟩ := nI_of (x := K n) (Int32.not_lt.mpr (Int32.le_trans (show (0 : Int32) ≤ 1 by decide) (h n (by omega)).1.1))
    have a := (h n (by omega)).1
    rw [e] at a
    have a1 := (nI_leI (a := 1) (by decide) (by omega)).mp a.1
    have a2 := (nI_leI (b := 50) (by omega) (by decide)).mp a.2
    refine ⟨s + k, ?_, by omega, by omega⟩
    show l_sum K n + K n = _
    rw [h1, e, nI_add]
theorem pitch_ok {K T : Nat → Int32} {N q : Nat} (h : VB K T N) (hq : q < N) : 0 ≤ pitchV K T q ∧ pitchV K T q ≤ 140 := by
  have H : ∀ k : Fin 51, ∀ t : Fin 41, 0 ≤ 100 / (if 1 < nI k.1 then nI k.1 else 1) - (nI t.1 - 40) ∧ 100 / (if 1 < nI k.1 then nI k.1 else 1) - (nI t.1 - 40) ≤ 140 := by decide +kernel
  obtain ⟨k, hk, e⟩ := nI_of (x := K q) (Int32.not_lt.mpr (Int32.le_trans (show (0 : Int32) ≤ 1 by decide) (h q hq).1.1))
  have a := (h q hq).1.2
  rw [e] at a
  have a2 := (nI_leI (b := 50) (by omega) (by decide)).mp a
  obtain ⟨t, ht, e2⟩ := off40 (h q hq).2.1 (Int32.le_trans (h q hq).2.2 (by decide))
  have b := (h q hq).2.2
  rw [e2] at b
  have ht2 : t ≤ 40 := by
    have G : ∀ t : Fin 61, nI t.1 - 40 ≤ 0 → t.1 ≤ 40 := by decide +kernel
    exact G ⟨t, ht⟩ b
  unfold pitchV
  rw [e, e2]
  exact H ⟨k, by omega⟩ ⟨t, by omega⟩
theorem XL.keep {M M' : Mem} {i : Nat} (h : XL M i) (h5 : nLk M i ≤ 5) (hk : ∀ o, 10 ≤ o → o < 30 → M'.1 (LA i + o) = M.1 (LA i + o)) (h1 : M'.1 (LA i) 1 = M.1 (LA i) 1) (hf : M'.1 (LA i) 4 = M.1 (LA i) 4 ∧ M'.1 (LA i) 5 = M.1 (LA i) 5) (hA : -40 ≤ M'.1 (LA i) 2 ∧ M'.1 (LA i) 2 ≤ 20) (hW : WS (M'.1 (LA i + 3)) (M'.1 (LA i + 4)) (nWn M' i)) (hP : ∀ y, y < 16 → 0 ≤ M'.1 (LA i + 8) y ∧ M'.1 (LA i + 8) y ≤ 140) : XL M' i := by
  obtain ⟨hV, _, hI, hO, _⟩ := h
  have hn : nLk M' i = nLk M i := by unfold nLk; rw [h1]
  have hc : ∀ j, j < nLk M i → ∀ o, o < 4 → M'.1 (LK i j + o) = M.1 (LK i j + o) := fun j hj o ho => by
    have := hk (10 + 4 * j + o) (by omega) (by omega)
    rw [show LA i + (10 + 4 * j + o) = LK i j + o by unfold LK; omega] at this
    exact this
  have hy : ∀ j, j < nLk M i → nLy M' i j = nLy M i j := fun j hj => by unfold nLy; rw [show LK i j = LK i j + 0 from rfl, hc j hj 0 (by omega)]
  have hice : ∀ j, j < nLk M i → iceV M' i j = iceV M i j := fun j hj => by unfold iceV; rw [hc j hj 1 (by omega), hy j hj]
  refine ⟨⟨fun j hj => ?_, hA⟩, hW, ?_, fun j hj => ?_, hP⟩
  · rw [hn] at hj
    rw [hc j hj 1 (by omega), hc j hj 2 (by omega), hy j hj]
    exact hV.1 j hj
  · rw [hf.1, hf.2, hn, hI]
    exact (sum_eq _ hice).symm
  · rw [hn] at hj
    rw [show LK i j = LK i j + 0 from rfl, hc j hj 0 (by omega), show iceV M' i j = iceV M i j from hice j hj]
    exact hO j hj
theorem XL.air {M : Mem} {i : Nat} {t : Int32} (h : XL M i) (h5 : nLk M i ≤ 5) (ht : -40 ≤ t ∧ t ≤ 20) : XL (up M (LA i) 2 t) i := by
  refine h.keep h5 (fun o a b => up_cell _ _ _ (by omega)) (up_slot _ _ _ (by omega)) ⟨up_slot _ _ _ (by omega), up_slot _ _ _ (by omega)⟩ (by rw [up_same]; exact ht) ?_ ?_
  · rw [up_cell _ _ _ (by omega), up_cell _ _ _ (by omega), show nWn (up M (LA i) 2 t) i = nWn M i by unfold nWn; rw [up_cell _ _ _ (by omega)]]
    exact h.2.1
  · rw [up_cell _ _ _ (by omega)]; exact h.2.2.2.2
theorem XL.hour0 {M : Mem} {i : Nat} (h : XL M i) (h5 : nLk M i ≤ 5) : XL (hourM0 i M) i := by
  unfold hourM0
  refine h.keep h5 (fun o a b => up_cell _ _ _ (by omega)) (up_slot _ _ _ (by omega)) ⟨up_slot _ _ _ (by omega), up_slot _ _ _ (by omega)⟩ (by rw [up_slot _ _ _ (by omega)]; exact h.1.2) ?_ ?_
  · rw [up_cell _ _ _ (by omega), up_cell _ _ _ (by omega), show nWn (up M (LA i) 3 (M.1 (LA i) 3 + 1)) i = nWn M i by unfold nWn; rw [up_cell _ _ _ (by omega)]]
    exact h.2.1
  · rw [up_cell _ _ _ (by omega)]; exact h.2.2.2.2
theorem rec_pit {i w cn : Nat} {kd lk pt hr : Int32} {m : Mem} (hp : 0 ≤ pt ∧ pt ≤ 140) (h : ∀ y, y < 16 → 0 ≤ m.1 (LA i + 8) y ∧ m.1 (LA i + 8) y ≤ 140) : ∀ y, y < 16 → 0 ≤ (recM i w cn kd lk pt hr m).1 (LA i + 8) y ∧ (recM i w cn kd lk pt hr m).1 (LA i + 8) y ≤ 140 := by
  intro y hy
  unfold recM
  rw [up_cell _ _ _ (by omega), up_cell _ _ _ (by omega), up_cell _ _ _ (by omega)]
  by_cases e : y = w
  · subst e; rw [up_same]; exact hp
  · rw [up_slot _ _ _ e, up_cell _ _ _ (by omega), up_cell _ _ _ (by omega)]; exact h y hy
theorem XL.ring {M : Mem} {i j y : Nat} (h : XL M i) (hL : LW M i) (hj : j < nLk M i) (hy : y < nLy M i j) : XL (ringM i j y M) i := by
  unfold ringM
  refine h.keep hL.nl5 (fun o a b => recM_cell (by omega)) (by rw [recM_cell (by omega)]) ⟨by rw [recM_cell (by omega)], by rw [recM_cell (by omega)]⟩ (by rw [recM_cell (by omega)]; exact h.1.2) ?_ (rec_pit (pitch_ok (h.1.1 j hj) hy) h.2.2.2.2)
  rw [recM_cell (by omega), recM_cell (by omega), show ∀ w cn kd lk pt hr, nWn (recM i w cn kd lk pt hr M) i = nWn M i from fun w cn kd lk pt hr => by unfold nWn; rw [recM_cell (by omega)]]
  exact h.2.1
theorem XL.ins {M : Mem} {i n : Nat} {x z : Int32} (h : XL M i) (hL : LW M i) (hn : n = nWn M i) (h6 : n < 6) (hxz : x ≤ z) (hc : meetB (M.1 (LA i + 3)) (M.1 (LA i + 4)) x z n = false) : XL (insM i n x z M) i := by
  refine h.keep hL.nl5 (fun o a b => insM_cell (by omega)) (by rw [insM_cell (by omega)]) ⟨by rw [insM_cell (by omega)], by rw [insM_cell (by omega)]⟩ (by rw [insM_cell (by omega)]; exact h.1.2) ?_ (by rw [insM_cell (by omega)]; exact h.2.2.2.2)
  have e3 : nWn (insM i n x z M) i = n + 1 := by unfold nWn insM; rw [up_same, nI_clamp (by omega)]
  have c3 : (insM i n x z M).1 (LA i + 3) = insRow (M.1 (LA i + 3)) n (insPos (M.1 (LA i + 3)) x n) x := by unfold insM; rw [up_cell _ _ _ (by omega), setRow_cell _ _ (by omega), setRow_same]
  have c4 : (insM i n x z M).1 (LA i + 4) = insRow (M.1 (LA i + 4)) n (insPos (M.1 (LA i + 3)) x n) z := by unfold insM; rw [up_cell _ _ _ (by omega), setRow_same]
  rw [e3, c3, c4]
  exact WS_ins (by rw [hn]; exact h.2.1) hxz rfl hc
theorem XL.rm {M : Mem} {i n a : Nat} (h : XL M i) (hL : LW M i) (hn : n = nWn M i) (ha : a < n) : XL (rmM i n a M) i := by
  have h6 : n ≤ 6 := by rw [hn]; exact hL.wr.2
  refine h.keep hL.nl5 (fun o b c => rmM_cell (by omega)) (by rw [rmM_cell (by omega)]) ⟨by rw [rmM_cell (by omega)], by rw [rmM_cell (by omega)]⟩ (by rw [rmM_cell (by omega)]; exact h.1.2) ?_ (by rw [rmM_cell (by omega)]; exact h.2.2.2.2)
  have e3 : nWn (rmM i n a M) i = n - 1 := by unfold nWn rmM; rw [setRow_cell _ _ (by omega), setRow_cell _ _ (by omega), up_same, nI_clamp (by omega)]
  have c3 : (rmM i n a M).1 (LA i + 3) = rmRow (M.1 (LA i + 3)) a (n - 1) := by unfold rmM; rw [setRow_cell _ _ (by omega), setRow_same]
  have c4 : (rmM i n a M).1 (LA i + 4) = rmRow (M.1 (LA i + 4)) a (n - 1) := by unfold rmM; rw [setRow_same]
  rw [e3, c3, c4]
  exact WS_rm (by rw [hn]; exact h.2.1) ha
theorem XL.place {M : Mem} {i : Nat} {d : Int32} (h : XL M i) (hL : LW M i) (h5 : nLk M i < 5) (hd : 20 ≤ d ∧ d ≤ 400) : XL (placeM i d M) i := by
  obtain ⟨hV, hW, hI, hO, hP⟩ := h
  obtain ⟨n, hnn⟩ : ∃ n, n = nLk M i := ⟨_, rfl⟩
  have hg := LK_ge i n
  have hlk : LK i n = LA i + 10 + 4 * n := rfl
  obtain ⟨hL', e1⟩ := place_LW (d := d) hL h5
  have hc : ∀ k, k ≠ LK i n → k ≠ LA i → (placeM i d M).1 k = M.1 k := fun k a b => placeM_cell (by rw [← hnn]; exact a) b
  have hs : ∀ f, f ≠ 1 → (placeM i d M).1 (LA i) f = M.1 (LA i) f := fun f hf1 => by
    unfold placeM
    rw [← hnn, up_slot _ _ _ hf1, up_cell _ _ _ (by omega), up_cell _ _ _ (by omega), up_cell _ _ _ (by omega)]
  have t4 : (placeM i d M).1 (LK i n) 4 = d := by unfold placeM; rw [← hnn, up_cell _ _ _ (by omega), up_slot _ _ _ (by omega), up_slot _ _ _ (by omega), up_same]
  have t3 : nLy (placeM i d M) i n = 0 := by
    unfold nLy placeM
    rw [← hnn, up_cell _ _ _ (by omega), up_slot _ _ _ (by omega), up_same]
    rfl
  rw [← hnn] at h5 e1 hI
  have e2 : ∀ j', j' ≠ n → nLy (placeM i d M) i j' = nLy M i j' := fun j' e => by have hlk' : LK i j' = LA i + 10 + 4 * j' := rfl; unfold nLy; rw [hc _ (by omega) (by omega)]
  have i0 : iceV (placeM i d M) i n = 0 := by unfold iceV; rw [t3]; rfl
  have hice : ∀ j, j < n → iceV (placeM i d M) i j = iceV M i j := fun j hj => by have hlk' : LK i j = LA i + 10 + 4 * j := rfl; unfold iceV; rw [hc _ (by omega) (by omega), e2 j (by omega)]
  refine ⟨⟨fun j hj => ?_, by rw [hs 2 (by omega)]; exact hV.2⟩, ?_, ?_, fun j hj => ?_, by rw [hc _ (by omega) (by omega)]; exact hP⟩
  · rw [e1] at hj
    have hlk' : LK i j = LA i + 10 + 4 * j := rfl
    by_cases e : j = n
    · rw [e, t3]; intro y hy; omega
    · rw [hc _ (by omega) (by omega), hc _ (by omega) (by omega), e2 j e]
      exact hV.1 j (by omega)
  · rw [hc _ (by omega) (by omega), hc _ (by omega) (by omega), show nWn (placeM i d M) i = nWn M i by unfold nWn; rw [hc _ (by omega) (by omega)]]
    exact hW
  · rw [hs 4 (by omega), hs 5 (by omega), e1, hI]
    show _ = l_sum (iceV (placeM i d M) i) n + iceV (placeM i d M) i n
    rw [i0, Int32.add_zero]
    exact (sum_eq _ hice).symm
  · rw [e1] at hj
    by_cases e : j = n
    · rw [e, t4, i0]
      exact ⟨hd.1, hd.2, Int32.le_trans (show 2 * (0 : Int32) ≤ 20 by decide) hd.1⟩
    · have hlk' : LK i j = LA i + 10 + 4 * j := rfl
      rw [hc _ (by omega) (by omega), hice j (by omega)]
      exact hO j (by omega)
theorem XL.grow {M : Mem} {i j : Nat} {t te : Int32} (h : XL M i) (hL : LW M i) (hj : j < nLk M i) (h7 : nLy M i j < 8) (ht : 1 ≤ t ∧ t ≤ 50) (hte : -40 ≤ te ∧ te ≤ 0) (hd : 2 * (iceV M i j + t) ≤ M.1 (LK i j) 4) : XL (growM i j t te M) i := by
  obtain ⟨hV, hW, hI, hO, hP⟩ := h
  have h5 := hL.nl5
  have hg := LK_ge i j
  have hlk : LK i j = LA i + 10 + 4 * j := rfl
  obtain ⟨hL', e1⟩ := grow_LW (t := t) (te := te) hL hj h7
  have hc : ∀ k, (k < LK i j ∨ LK i j + 3 < k) → k ≠ LA i → (growM i j t te M).1 k = M.1 k := fun k a b => growM_cell a b
  have hs : ∀ f, f ≠ 4 → (growM i j t te M).1 (LA i) f = M.1 (LA i) f := fun f hf => by
    unfold growM
    rw [up_cell _ _ _ (by omega), up_cell _ _ _ (by omega), up_cell _ _ _ (by omega), up_cell _ _ _ (by omega), up_slot _ _ _ hf]
  have s4 : (growM i j t te M).1 (LA i) 4 = M.1 (LA i) 4 + t := by
    unfold growM
    rw [up_cell _ _ _ (by omega), up_cell _ _ _ (by omega), up_cell _ _ _ (by omega), up_cell _ _ _ (by omega), up_same]
  have t4 : (growM i j t te M).1 (LK i j) 4 = M.1 (LK i j) 4 := by
    unfold growM
    rw [up_slot _ _ _ (by omega), up_cell _ _ _ (by omega), up_cell _ _ _ (by omega), up_cell _ _ _ (by omega), up_cell _ _ _ (by omega)]
  have t3 : nLy (growM i j t te M) i j = nLy M i j + 1 := by
    show ((growM i j t te M).1 (LK i j) 3).toNatClampNeg = _
    unfold growM
    rw [up_same, nI_clamp (by omega)]
  have k1 : (growM i j t te M).1 (LK i j + 1) = upd (M.1 (LK i j + 1)) (nLy M i j) t := by
    unfold growM
    rw [up_cell _ _ _ (by omega), up_cell _ _ _ (by omega), up_cell _ _ _ (by omega), up_row, up_cell _ _ _ (by omega)]
  have k2 : (growM i j t te M).1 (LK i j + 2) = upd (M.1 (LK i j + 2)) (nLy M i j) te := by
    unfold growM
    rw [up_cell _ _ _ (by omega), up_cell _ _ _ (by omega), up_row, up_cell _ _ _ (by omega), up_cell _ _ _ (by omega)]
  have e2 : ∀ j', j' ≠ j → nLy (growM i j t te M) i j' = nLy M i j' := fun j' e => by have hlk' : LK i j' = LA i + 10 + 4 * j' := rfl; show ((growM i j t te M).1 (LK i j') 3).toNatClampNeg = _; rw [hc _ (by omega) (by omega)]; rfl
  have hij : iceV (growM i j t te M) i j = iceV M i j + t := by
    unfold iceV
    rw [t3, k1]
    show l_sum _ (nLy M i j) + upd _ _ _ (nLy M i j) = _
    rw [upd_at, sum_eq (f2 := M.1 (LK i j + 1)) _ (fun y hy => upd_ne _ _ (by omega))]
  have hice : ∀ j', j' ≠ j → iceV (growM i j t te M) i j' = iceV M i j' := fun j' e => by have hlk' : LK i j' = LA i + 10 + 4 * j' := rfl; unfold iceV; rw [hc _ (by omega) (by omega), e2 j' e]
  refine ⟨⟨fun j' hj' => ?_, by rw [hs 2 (by omega)]; exact hV.2⟩, ?_, ?_, fun j' hj' => ?_, by rw [hc _ (by omega) (by omega)]; exact hP⟩
  · rw [e1] at hj'
    have hlk' : LK i j' = LA i + 10 + 4 * j' := rfl
    by_cases e : j' = j
    · subst e
      rw [k1, k2, t3]
      intro y hy
      by_cases ey : y = nLy M i j'
      · rw [ey, upd_at, upd_at]; exact ⟨ht, hte⟩
      · rw [upd_ne _ _ ey, upd_ne _ _ ey]; exact hV.1 j' hj' y (by omega)
    · rw [hc _ (by omega) (by omega), hc _ (by omega) (by omega), e2 j' e]
      exact hV.1 j' hj'
  · rw [hc _ (by omega) (by omega), hc _ (by omega) (by omega), show nWn (growM i j t te M) i = nWn M i by unfold nWn; rw [hc _ (by omega) (by omega)]]
    exact hW
  · rw [s4, hs 5 (by omega), e1, sum_at (f := iceV M i) (f2 := iceV (growM i j t te M) i) (j := j) (d := t) _ hj (fun y _ hne => hice y hne) hij, ← hI]
    rw [Int32.sub_eq_add_neg, Int32.sub_eq_add_neg, Int32.add_assoc, Int32.add_assoc, Int32.add_comm t]
  · rw [e1] at hj'
    by_cases e : j' = j
    · subst e
      rw [t4, hij]
      exact ⟨(hO j' hj').1, (hO j' hj').2.1, hd⟩
    · have hlk' : LK i j' = LA i + 10 + 4 * j' := rfl
      rw [hc _ (by omega) (by omega), hice j' e]
      exact hO j' hj'
