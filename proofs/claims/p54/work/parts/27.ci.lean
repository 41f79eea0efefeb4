/-! the changes keep the class's state well formed -/
theorem LA_0 : LA 0 = 1 := rfl
theorem CI.keep {m m2 : Mem} (hI : CI m) (hL : LW m2 0) (ho : ∀ k, (k = 0 ∨ (61 ≤ k ∧ k < 333)) → m2.1 k = m.1 k) : CI m2 := by
  have h91 := ho 91 (by omega)
  have ew : hw m2 = hw m := by unfold hw; rw [h91]
  have ec : hc m2 = hc m := by unfold hc; rw [h91]
  have ha : ∀ i, 2 ≤ i → i < 11 → Agr m m2 i := fun i h1 h2 o ho2 => ho _ (by unfold LA; split <;> omega)
  refine ⟨hL, ?_, fun q hq => ?_, ?_⟩
  · rw [ew, ec]
    unfold HS
    rw [h91]
    exact hI.2.1
  · rw [ec] at hq
    rw [ew]
    exact ((ha _ (by omega) (by omega)).lw (hI.2.2.1 q hq)).1
  · rw [ho 0 (by omega)]
    exact hI.2.2.2.imp id (fun z => ⟨z.1, ((ha 2 (by omega) (by omega)).lw z.2).1⟩)
theorem rem_hw {m : Mem} (hI : CI m) : hw (rem m) = (hw m + 1) % 8 := by
  show ((up (up (cpLand (3 + hw m) 0 m) 91 2 (nI ((hw m + 1) % 8))) 91 1 (nI (min (hc m + 1) 8))).1 91 2).toNatClampNeg = _
  rw [up_slot _ _ _ (by omega), up_same, nI_clamp (by omega)]
theorem rem_hc {m : Mem} (hI : CI m) : hc (rem m) = min (hc m + 1) 8 := by
  show ((up (up (cpLand (3 + hw m) 0 m) 91 2 (nI ((hw m + 1) % 8))) 91 1 (nI (min (hc m + 1) 8))).1 91 1).toNatClampNeg = _
  rw [up_same, nI_clamp (by omega)]
theorem rem_top {m : Mem} (hI : CI m) : Sm m (rem m) 0 (3 + hw m) := by
  have h8 := hI.2.1.2.1
  have hs := cpLand_sm (m := m) (i := 3 + hw m) (i2 := 0) (by omega) hI.1.nl5
  refine hs.trans (Agr.sm (fun o ho => ?_) (by rw [hs.nl]; exact hI.1.nl5))
  have h3 := LA_3 (hw m)
  show (up (up (cpLand (3 + hw m) 0 m) 91 2 (nI ((hw m + 1) % 8))) 91 1 (nI (min (hc m + 1) 8))).1 _ = _
  rw [up_cell _ _ _ (by omega), up_cell _ _ _ (by omega)]
theorem rem_old {m : Mem} (hI : CI m) {w : Nat} (hw8 : w < 8) (hne : w ≠ hw m) : Agr m (rem m) (3 + w) := by
  intro o ho
  have h1 := LA_apart (i := 3 + w) (i2 := 3 + hw m) (by omega)
  have h2 := LA_3 w
  exact remH_cell hI.1.nl5 (by omega) (by omega)
theorem rem_CI {m : Mem} (hI : CI m) : CI (rem m) := by
  have hL := rem_LW hI.1
  have h8 := hI.2.1.2.1
  have hc8 := hI.2.1.2.2.2
  refine ⟨hL.1, ?_, fun q hq => ?_, ?_⟩
  · rw [rem_hw hI, rem_hc hI]
    refine ⟨?_, by omega, up_same _ _ _ _, by omega⟩
    show (up (up (cpLand (3 + hw m) 0 m) 91 2 (nI ((hw m + 1) % 8))) 91 1 (nI (min (hc m + 1) 8))).1 91 2 = _
    rw [up_slot _ _ _ (by omega), up_same]
  · rw [rem_hc hI] at hq
    rw [rem_hw hI]
    by_cases e : q = 0
    · subst e
      rw [show ((hw m + 1) % 8 + 7 - 0) % 8 = hw m by omega]
      exact (rem_top hI).lw hI.1
    · rw [show ((hw m + 1) % 8 + 7 - q) % 8 = (hw m + 7 - (q - 1)) % 8 by omega]
      exact ((rem_old hI (by omega) (by omega)).lw (hI.2.2.1 (q - 1) (by omega))).1
  · have h3 := LA_3 (hw m)
    rw [show (rem m).1 0 = m.1 0 from remH_cell hI.1.nl5 (by omega) (by omega)]
    exact hI.2.2.2.imp id (fun z => ⟨z.1, ((rem_agr hI.1 (i := 2) (by omega)).lw z.2).1⟩)
theorem placeM_cell {i : Nat} {d : Int32} {m : Mem} {k : Nat} (h1 : k ≠ LK i (nLk m i)) (h2 : k ≠ LA i) : (placeM i d m).1 k = m.1 k := by
  unfold placeM
  rw [up_cell _ _ _ h2, up_cell _ _ _ h1, up_cell _ _ _ h1, up_cell _ _ _ h1]
theorem place_LW {i : Nat} {d : Int32} {m : Mem} (hL : LW m i) (h5 : nLk m i < 5) : LW (placeM i d m) i ∧ nLk (placeM i d m) i = nLk m i + 1 := by
  have hg := LK_ge i (nLk m i)
  refine LW.mk' (by unfold placeM; exact up_same _ _ _ _) (by omega) (fun j hj => ?_) ⟨nWn m i, by rw [placeM_cell (by omega) (by omega)]; exact hL.wr.1, hL.wr.2⟩ ⟨_, _, hL.pr.row (placeM_cell (by omega) (by omega))⟩ (fun y hy => by rw [placeM_cell (by omega) (by omega)]; exact hL.kf y hy)
  by_cases e : j = nLk m i
  · subst e
    refine ⟨0, ?_, by omega⟩
    unfold placeM
    rw [up_cell _ _ _ (by omega), up_slot _ _ _ (by omega), up_same]
    rfl
  · have ha := LK_apart (i := i) e
    have hg2 := LK_ge i j
    exact ⟨nLy m i j, by rw [placeM_cell (by omega) (by omega)]; exact (hL.ln (by omega)).1, (hL.ln (by omega)).2⟩
theorem growM_cell {i j : Nat} {t te : Int32} {m : Mem} {k : Nat} (h1 : k < LK i j ∨ LK i j + 3 < k) (h2 : k ≠ LA i) : (growM i j t te m).1 k = m.1 k := by
  unfold growM
  rw [up_cell _ _ _ (by omega), up_cell _ _ _ (by omega), up_cell _ _ _ (by omega), up_cell _ _ _ (by omega), up_cell _ _ _ h2]
theorem grow_LW {i j : Nat} {t te : Int32} {m : Mem} (hL : LW m i) (hj : j < nLk m i) (h8 : nLy m i j < 8) : LW (growM i j t te m) i ∧ nLk (growM i j t te m) i = nLk m i := by
  have hg := LK_ge i j
  have h5 := hL.nl5
  refine hL.lake (j := j) ?_ (growM_cell (by omega) (by omega)) (fun j' hj' e => ?_) ⟨nLy m i j + 1, ?_, by omega⟩ ⟨_, _, hL.pr.row (growM_cell (by omega) (by omega))⟩ (fun y hy => by rw [growM_cell (by omega) (by omega)]; exact hL.kf y hy)
  · unfold growM
    rw [up_cell _ _ _ (by omega), up_cell _ _ _ (by omega), up_cell _ _ _ (by omega), up_cell _ _ _ (by omega), up_slot _ _ _ (by omega)]
  · have ha := LK_apart (i := i) e
    have hg2 := LK_ge i j'
    exact growM_cell (by omega) (by omega)
  · unfold growM
    exact up_same _ _ _ _
theorem rec_LW {i w cn : Nat} {kd lk pt hr : Int32} {m : Mem} (hL : LW m i) (hk : fits .char (.int kd) = true) : LW (recM i w cn kd lk pt hr m) i ∧ nLk (recM i w cn kd lk pt hr m) i = nLk m i := by
  have hc : ∀ k, (k < LA i + 5 ∨ LA i + 9 < k) → (recM i w cn kd lk pt hr m).1 k = m.1 k := fun k hk => recM_cell hk
  refine LW.mk' (by rw [hc _ (by omega)]; exact hL.nl) hL.nl5 (fun j hj => ⟨nLy m i j, by rw [hc _ (by have := LK_ge i j; omega)]; exact (hL.ln hj).1, (hL.ln hj).2⟩) ⟨nWn m i, by rw [hc _ (by omega)]; exact hL.wr.1, hL.wr.2⟩ ⟨_, _, recM_PR⟩ (fun y hy => ?_)
  unfold recM
  rw [up_cell _ _ _ (by omega), up_cell _ _ _ (by omega), up_cell _ _ _ (by omega), up_cell _ _ _ (by omega), up_cell _ _ _ (by omega)]
  by_cases e : y = w
  · subst e; rw [up_same]; exact hk
  · rw [up_slot _ _ _ e]; exact hL.kf y hy
theorem ring_LW {i j y : Nat} {m : Mem} (hL : LW m i) : LW (ringM i j y m) i ∧ nLk (ringM i j y m) i = nLk m i := rec_LW hL (by decide)
theorem insM_cell {i n : Nat} {x z : Int32} {m : Mem} {k : Nat} (h : k < LA i + 2 ∨ LA i + 4 < k) : (insM i n x z m).1 k = m.1 k := by
  unfold insM
  rw [up_cell _ _ _ (by omega), setRow_cell _ _ (by omega), setRow_cell _ _ (by omega)]
theorem ins_LW {i n : Nat} {x z : Int32} {m : Mem} (hL : LW m i) (h6 : n < 6) : LW (insM i n x z m) i ∧ nLk (insM i n x z m) i = nLk m i :=
  LW.mk' (by rw [insM_cell (by omega)]; exact hL.nl) hL.nl5 (fun j hj => ⟨nLy m i j, by rw [insM_cell (by have := LK_ge i j; omega)]; exact (hL.ln hj).1, (hL.ln hj).2⟩) ⟨n + 1, by unfold insM; exact up_same _ _ _ _, by omega⟩ ⟨_, _, hL.pr.row (insM_cell (by omega))⟩ (fun y hy => by rw [insM_cell (by omega)]; exact hL.kf y hy)
theorem rmM_cell {i n a : Nat} {m : Mem} {k : Nat} (h : k < LA i + 2 ∨ LA i + 4 < k) : (rmM i n a m).1 k = m.1 k := by
  unfold rmM
  rw [setRow_cell _ _ (by omega), setRow_cell _ _ (by omega), up_cell _ _ _ (by omega)]
theorem rm_LW {i n a : Nat} {m : Mem} (hL : LW m i) (h6 : n ≤ 6) : LW (rmM i n a m) i ∧ nLk (rmM i n a m) i = nLk m i :=
  LW.mk' (by rw [rmM_cell (by omega)]; exact hL.nl) hL.nl5 (fun j hj => ⟨nLy m i j, by rw [rmM_cell (by have := LK_ge i j; omega)]; exact (hL.ln hj).1, (hL.ln hj).2⟩) ⟨n - 1, by unfold rmM; rw [setRow_cell _ _ (by omega), setRow_cell _ _ (by omega), up_same], by omega⟩ ⟨_, _, hL.pr.row (rmM_cell (by omega))⟩ (fun y hy => by rw [rmM_cell (by omega)]; exact hL.kf y hy)
theorem lksM_cell {i : Nat} {rest : Bool} {m : Mem} {k : Nat} (h : k < LA i ∨ LA i + 30 ≤ k) : ∀ q, q ≤ 5 → (lksM i rest m q).1 k = m.1 k
  | 0, _ => rfl
  | q + 1, hq => by
    have h1 := LK_in (i := i) (j := q) (by omega)
    exact (lkStep_cell (by omega) (by omega) (by omega)).trans (lksM_cell h q (by omega))
theorem hourM_cell {i : Nat} {m : Mem} (h5 : nLk m i ≤ 5) {k : Nat} (h : k < LA i ∨ LA i + 30 ≤ k) : (hourM i m).1 k = m.1 k :=
  (lksM_cell h _ h5).trans (up_cell _ _ _ (by omega))
theorem hoursM_cell {i : Nat} {m : Mem} (hL : LW m i) {k : Nat} (h : k < LA i ∨ LA i + 30 ≤ k) : ∀ q, (hoursM i m q).1 k = m.1 k
  | 0 => rfl
  | q + 1 => (hourM_cell (hours_LW hL q).1.nl5 h).trans (hoursM_cell hL h q)
