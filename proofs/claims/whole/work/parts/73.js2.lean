/-! the reference's state beside a memory that agrees -/
theorem JS.agr {m M M' : Mem} (h : JS m M) (hk : ∀ k, (k < 31 ∨ (61 ≤ k ∧ k < 333)) → M'.1 k = M.1 k) : JS m M' := by
  obtain ⟨hG, hI, h6, hH, h5, hS⟩ := h
  have a0 : Agr M M' 0 := fun o ho => hk _ (by rw [LA_0]; omega)
  have a2 : Agr M M' 2 := fun o ho => hk _ (by rw [LA_2]; omega)
  have a3 : ∀ w, w < 8 → Agr M M' (3 + w) := fun w hw o ho => hk _ (by have := LA_3 w; omega)
  have e1 : hw M' = hw M := by unfold hw; rw [hk 91 (by omega)]
  have e2 : hc M' = hc M := by unfold hc; rw [hk 91 (by omega)]
  have h0 : M'.1 0 = M.1 0 := hk 0 (by omega)
  refine ⟨hG.sm (a0.sm hI.1.nl5), hI.keep (a0.lw hI.1).1 (fun k h => hk k (by omega)), by rw [e2]; exact h6, fun q hq => ?_, by rw [h0]; exact h5, fun hs => ?_⟩
  · rw [e2] at hq
    rw [e1, e2]
    exact (hH q hq).sm ((a3 _ (by omega)).sm (hH q hq).1.2.1.nl5)
  · rw [h0] at hs
    exact (hS hs).sm (a2.sm (hS hs).1.2.1.nl5)
/-- the rows of the reference moved on by what the class alone writes -/
theorem JS.own {m m2 M : Mem} (h : JS m M) (hk : ∀ k, 363 ≤ k → m2.1 k = m.1 k) : JS m2 M := by
  refine h.mem (hk 364 (by decide)) ?_ ?_ (hk 367 (by decide)) (hk 368 (by decide))
  · rw [hk 363 (by decide)]
  · rw [hk 363 (by decide)]
