/-! undo, save, restore: the state after -/
def undoM (m : Mem) : Mem := backH 0 (hw m) (hc m) m
def saveM (m : Mem) : Mem := up (cpLand 2 0 m) 0 3 1
def restM (m : Mem) : Mem := up (cpLand 0 2 m) 91 1 0
theorem back_src {m : Mem} {w : Nat} (x : Int32) : Agr m (up m 91 2 x) (3 + w) := fun o ho => up_cell _ _ _ (by have := LA_3 w; omega)
theorem undo_src {m : Mem} (hI : CI m) (h0 : 0 < hc m) : LW m (3 + (hw m + 7) % 8) := hI.2.2.1 0 h0
theorem undo_sm {m : Mem} (hI : CI m) (h0 : 0 < hc m) : Sm m (undoM m) (3 + (hw m + 7) % 8) 0 := by
  have hL := undo_src hI h0
  have h1 := (back_src (m := m) (w := (hw m + 7) % 8) (nI ((hw m + 7) % 8))).sm hL.nl5
  have hs := cpLand_sm (i := 0) (i2 := 3 + (hw m + 7) % 8) (m := up m 91 2 (nI ((hw m + 7) % 8))) (by omega) (by rw [h1.nl]; exact hL.nl5)
  have h2 := h1.trans hs
  exact h2.trans (Agr.sm (fun o ho => up_cell _ _ _ (by rw [LA_0]; omega)) (by rw [h2.nl]; exact hL.nl5))
theorem undo_cell {m : Mem} (hI : CI m) (h0 : 0 < hc m) {k : Nat} (h : k = 0 ∨ 31 ≤ k) (h2 : k ≠ 91) : (undoM m).1 k = m.1 k := by
  have hL := undo_src hI h0
  have h1 := (back_src (m := m) (w := (hw m + 7) % 8) (nI ((hw m + 7) % 8))).sm hL.nl5
  unfold undoM backH
  rw [up_cell _ _ _ h2, cpLand_cell (by rw [h1.nl]; exact hL.nl5) (by rw [LA_0]; omega), up_cell _ _ _ h2]
theorem undo_91 {m : Mem} (hI : CI m) (h0 : 0 < hc m) : (undoM m).1 91 2 = nI ((hw m + 7) % 8) ∧ (undoM m).1 91 1 = nI (hc m - 1) := by
  have hL := undo_src hI h0
  have h1 := (back_src (m := m) (w := (hw m + 7) % 8) (nI ((hw m + 7) % 8))).sm hL.nl5
  unfold undoM backH
  refine ⟨?_, up_same _ _ _ _⟩
  rw [up_slot _ _ _ (by omega), cpLand_cell (by rw [h1.nl]; exact hL.nl5) (by rw [LA_0]; omega), up_same]
theorem undo_hw {m : Mem} (hI : CI m) (h0 : 0 < hc m) : hw (undoM m) = (hw m + 7) % 8 ∧ hc (undoM m) = hc m - 1 := by
  have h8 := hI.2.1.2.2.2
  obtain ⟨e1, e2⟩ := undo_91 hI h0
  unfold hw hc
  rw [e1, e2]
  exact ⟨nI_clamp (by unfold hw; omega), nI_clamp (by unfold hc at h8 ⊢; omega)⟩
theorem undo_CI {m : Mem} (hI : CI m) (h0 : 0 < hc m) : CI (undoM m) := by
  have hL := undo_src hI h0
  have h8 := hI.2.1.2.1
  have hc8 := hI.2.1.2.2.2
  obtain ⟨e1, e2⟩ := undo_hw hI h0
  obtain ⟨f1, f2⟩ := undo_91 hI h0
  refine ⟨(undo_sm hI h0).lw hL, ?_, fun q hq => ?_, ?_⟩
  · rw [e1, e2]
    exact ⟨f1, by omega, f2, by omega⟩
  · rw [e2] at hq
    rw [e1, show ((hw m + 7) % 8 + 7 - q) % 8 = (hw m + 7 - (q + 1)) % 8 by omega]
    have h3 := LA_3 ((hw m + 7 - (q + 1)) % 8)
    exact ((show Agr m (undoM m) (3 + (hw m + 7 - (q + 1)) % 8) from fun o ho => undo_cell hI h0 (by omega) (by omega)).lw (hI.2.2.1 (q + 1) (by omega))).1
  · rw [undo_cell hI h0 (by omega) (by omega)]
    exact hI.2.2.2.imp id (fun z => ⟨z.1, ((show Agr m (undoM m) 2 from fun o ho => undo_cell hI h0 (by unfold LA; split <;> omega) (by unfold LA; split <;> omega)).lw z.2).1⟩)
theorem LA_2 : LA 2 = 61 := rfl
theorem save_cell {m : Mem} (hI : CI m) {k : Nat} (h : k ≠ 0) (h2 : k < 61 ∨ 91 ≤ k) : (saveM m).1 k = m.1 k := by
  unfold saveM
  rw [up_cell _ _ _ h, cpLand_cell hI.1.nl5 (by rw [LA_2]; omega)]
theorem save_sm {m : Mem} (hI : CI m) : Sm m (saveM m) 0 2 := by
  have hs := cpLand_sm (i := 2) (i2 := 0) (m := m) (by decide) hI.1.nl5
  exact hs.trans (Agr.sm (fun o ho => up_cell _ _ _ (by rw [LA_2]; omega)) (by rw [hs.nl]; exact hI.1.nl5))
theorem save_agr {m : Mem} (hI : CI m) : Agr m (saveM m) 0 := fun o ho => save_cell hI (by rw [LA_0]; omega) (by rw [LA_0]; omega)
theorem save_old {m : Mem} (hI : CI m) (w : Nat) : Agr m (saveM m) (3 + w) := fun o ho => save_cell hI (by have := LA_3 w; omega) (by have := LA_3 w; omega)
theorem save_CI {m : Mem} (hI : CI m) : CI (saveM m) := by
  have h91 : (saveM m).1 91 = m.1 91 := save_cell hI (by omega) (by omega)
  have e1 : hw (saveM m) = hw m := by unfold hw; rw [h91]
  have e2 : hc (saveM m) = hc m := by unfold hc; rw [h91]
  refine ⟨((save_agr hI).lw hI.1).1, ?_, fun q hq => ?_, Or.inr ⟨up_same _ _ _ _, (save_sm hI).lw hI.1⟩⟩
  · rw [e1, e2]
    unfold HS
    rw [h91]
    exact hI.2.1
  · rw [e2] at hq
    rw [e1]
    exact ((save_old hI _).lw (hI.2.2.1 q hq)).1
theorem rest_cell {m : Mem} (hS : LW m 2) {k : Nat} (h : k = 0 ∨ 31 ≤ k) (h2 : k ≠ 91) : (restM m).1 k = m.1 k := by
  unfold restM
  rw [up_cell _ _ _ h2, cpLand_cell hS.nl5 (by rw [LA_0]; omega)]
theorem rest_sm {m : Mem} (hS : LW m 2) : Sm m (restM m) 2 0 := by
  have hs := cpLand_sm (i := 0) (i2 := 2) (m := m) (by decide) hS.nl5
  exact hs.trans (Agr.sm (fun o ho => up_cell _ _ _ (by rw [LA_0]; omega)) (by rw [hs.nl]; exact hS.nl5))
theorem rest_CI {m : Mem} (hI : CI m) (h1 : m.1 0 3 = 1) (hS : LW m 2) : CI (restM m) := by
  have e1 : (restM m).1 91 1 = 0 := up_same _ _ _ _
  have e2 : (restM m).1 91 2 = m.1 91 2 := by
    unfold restM
    rw [up_slot _ _ _ (by omega), cpLand_cell hS.nl5 (by rw [LA_0]; omega)]
  have f1 : hc (restM m) = 0 := by unfold hc; rw [e1]; rfl
  have f2 : hw (restM m) = hw m := by unfold hw; rw [e2]
  refine ⟨(rest_sm hS).lw hS, ?_, fun q hq => ?_, Or.inr ⟨?_, ?_⟩⟩
  · rw [f1, f2]
    exact ⟨e2.trans hI.2.1.1, hI.2.1.2.1, e1, by omega⟩
  · rw [f1] at hq
    exact absurd hq (Nat.not_lt_zero _)
  · rw [rest_cell hS (by omega) (by omega)]
    exact h1
  · exact ((show Agr m (restM m) 2 from fun o ho => rest_cell hS (by rw [LA_2]; omega) (by rw [LA_2]; omega)).lw hS).1
