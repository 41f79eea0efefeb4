/-! the reference's state beside the class's -/
def hro (R : Nat → Int32) (q : Nat) : Nat → Int32 := fun k => R (k + 218 * q)
def GL (R : Nat → Int32) (M : Mem) (i : Nat) : Prop := RM R M i ∧ XL M i
def JS (m M : Mem) : Prop := GL (m.1 364) M 0 ∧ CI M ∧ m.1 363 6 = nI (hc M) ∧ (∀ q, q < hc M → GL (hro (m.1 368) (hc M - 1 - q)) M (3 + (hw M + 7 - q) % 8)) ∧ m.1 363 5 = M.1 0 3 ∧ (M.1 0 3 = 1 → GL (m.1 367) M 2)
def MFx (m m2 : Mem) : Prop := m2.2 = m.2 ∧ (∀ k, k ≠ 363 → k ≠ 364 → k ≠ 365 → k ≠ 368 → k ≠ 369 → m2.1 k = m.1 k) ∧ ∀ f, f ≠ 15 → f ≠ 6 → m2.1 363 f = m.1 363 f
theorem GL.sm {R : Nat → Int32} {M M' : Mem} {i i' : Nat} (h : GL R M i) (hs : Sm M M' i i') : GL R M' i' := ⟨h.1.sm hs, h.2.sm h.1.2.1 hs⟩
theorem GL.row {R R' : Nat → Int32} {M : Mem} {i : Nat} (h : GL R M i) (he : ∀ k, k < 218 → R' k = R k) : GL R' M i := ⟨h.1.row he, h.2⟩
def begM (m : Mem) : Mem := setRow m 365 (cpRow (m.1 364) (m.1 365) 0 0)
theorem begM_k (m : Mem) {k : Nat} (h : k ≠ 365) : (begM m).1 k = m.1 k := setRow_cell _ _ h
theorem begM_365 (m : Mem) {k : Nat} (h : k < 218) : (begM m).1 365 k = m.1 364 k := by
  unfold begM
  rw [setRow_same]
  unfold cpRow
  rw [if_pos (by omega)]
  exact congrArg _ (by omega)
theorem hiRow_new {Hr B : Nat → Int32} {n k : Nat} (hn : n ≤ 8) (hk : k < 218) : hro (hiRow Hr B n) (min (n + 1) 8 - 1 - 0) k = B k := by
  unfold hro hiRow
  by_cases e : n = 8
  · rw [if_pos e]
    unfold cpRow
    rw [if_pos (by omega)]
    exact congrArg B (by omega)
  · rw [if_neg e]
    unfold cpRow
    rw [if_pos (by omega)]
    exact congrArg B (by omega)
theorem hiRow_old {Hr B : Nat → Int32} {n k q : Nat} (hn : n ≤ 8) (hk : k < 218) (h1 : 1 ≤ q) (hq : q < min (n + 1) 8) : hro (hiRow Hr B n) (min (n + 1) 8 - 1 - q) k = hro Hr (n - 1 - (q - 1)) k := by
  unfold hro hiRow
  by_cases e : n = 8
  · rw [if_pos e]
    unfold cpRow
    rw [if_neg (by omega)]
    dsimp only
    rw [if_pos (by omega)]
    exact congrArg Hr (by omega)
  · rw [if_neg e]
    unfold cpRow
    rw [if_neg (by omega)]
    exact congrArg Hr (by omega)
theorem JS.ok {m M M2 ma : Mem} (h : JS m M) (hF : MFr (up (begM m) 363 15 0) ma) (hR : RM (ma.1 364) M2 0) (hX : XL M2 0) (hk : ∀ k, (k = 0 ∨ (61 ≤ k ∧ k < 333)) → M2.1 k = (rem M).1 k) : JS (reMM (hc M) ma) M2 ∧ MFx m (reMM (hc M) ma) := by
  obtain ⟨hG, hI, h6, hH, h5, hS⟩ := h
  have h8 := hI.2.1.2.2.2
  have hw8 := hI.2.1.2.1
  have hI2 : CI M2 := (rem_CI hI).keep hR.2.1 hk
  have ehw : hw M2 = (hw M + 1) % 8 := by
    rw [← rem_hw hI]; unfold hw; rw [hk 91 (by omega)]
  have ehc : hc M2 = min (hc M + 1) 8 := by
    rw [← rem_hc hI]; unfold hc; rw [hk 91 (by omega)]
  have hag : ∀ w, w < 8 → Agr (rem M) M2 (3 + w) := fun w hw o ho => hk _ (by have := LA_3 w; omega)
  have hag2 : Agr (rem M) M2 2 := fun o ho => hk _ (by have : LA 2 = 61 := rfl; omega)
  have r365 : ∀ k, k < 218 → ma.1 365 k = m.1 364 k := fun k hk => by
    rw [hF.2 365 (by decide) (by decide), up_cell _ _ _ (by decide)]; exact begM_365 m hk
  have r363 : ∀ f, f ≠ 15 → ma.1 363 f = m.1 363 f := fun f hf => by
    rw [hF.2 363 (by decide) (by decide), up_slot _ _ _ hf, begM_k _ (by decide)]
  have rk : ∀ k, k ≠ 363 → k ≠ 364 → k ≠ 365 → k ≠ 369 → ma.1 k = m.1 k := fun k a b c d => by
    rw [hF.2 k b d, up_cell _ _ _ a, begM_k _ c]
  have q363 : ∀ f, f ≠ 6 → (reMM (hc M) ma).1 363 f = ma.1 363 f := fun f hf => by
    unfold reMM; rw [up_slot _ _ _ hf, setRow_cell _ _ (by decide)]
  have q368 : (reMM (hc M) ma).1 368 = hiRow (m.1 368) (ma.1 365) (hc M) := by
    unfold reMM; rw [up_cell _ _ _ (by decide), setRow_same, rk 368 (by decide) (by decide) (by decide) (by decide)]
  have qk : ∀ k, k ≠ 363 → k ≠ 368 → (reMM (hc M) ma).1 k = ma.1 k := fun k a b => by
    unfold reMM; rw [up_cell _ _ _ a, setRow_cell _ _ b]
  refine ⟨⟨⟨by rw [qk 364 (by decide) (by decide)]; exact hR, hX⟩, hI2, ?_, fun q hq => ?_, ?_, fun hs => ?_⟩, hF.1, fun k a b c d e => ?_, fun f a b => ?_⟩
  · rw [ehc]; exact up_same _ _ _ _
  · rw [ehc] at hq
    rw [ehc, ehw, q368]
    by_cases e : q = 0
    · subst e
      rw [show ((hw M + 1) % 8 + 7 - 0) % 8 = hw M by omega]
      refine (hG.row (fun k hk => ?_)).sm ((rem_top hI).trans ((hag _ hw8).sm (by rw [(rem_top hI).nl]; exact hI.1.nl5)))
      rw [hiRow_new h8 hk, r365 k hk]
    · have hold := hH (q - 1) (by omega)
      rw [show ((hw M + 1) % 8 + 7 - q) % 8 = (hw M + 7 - (q - 1)) % 8 by omega]
      have ha := rem_old hI (w := (hw M + 7 - (q - 1)) % 8) (by omega) (by omega)
      have h5 := hold.1.2.1.nl5
      refine (hold.row (fun k hk => ?_)).sm ((ha.sm h5).trans ((hag _ (by omega)).sm (by rw [(ha.sm h5).nl]; exact h5)))
      rw [hiRow_old h8 hk (by omega) hq]
  · rw [q363 5 (by decide), r363 5 (by decide), h5, hk 0 (by omega), show (rem M).1 0 = M.1 0 from remH_cell hI.1.nl5 (by have := LA_3 (hw M); omega) (by omega)]
  · rw [hk 0 (by omega), show (rem M).1 0 = M.1 0 from remH_cell hI.1.nl5 (by have := LA_3 (hw M); omega) (by omega)] at hs
    have hsv := hS hs
    rw [qk 367 (by decide) (by decide), rk 367 (by decide) (by decide) (by decide) (by decide)]
    have ha := rem_agr hI.1 (i := 2) (by omega)
    have h5 := hsv.1.2.1.nl5
    exact hsv.sm ((ha.sm h5).trans (hag2.sm (by rw [(ha.sm h5).nl]; exact h5)))
  · rw [qk k a d, rk k a b c e]
  · rw [q363 f b, r363 f a]
theorem JS.fail {m M : Mem} {t : Int32} (h : JS m M) : JS (setRow (up (begM m) 363 15 t) 364 (cpRow ((up (begM m) 363 15 t).1 365) ((up (begM m) 363 15 t).1 364) 0 0)) M ∧ MFx m (setRow (up (begM m) 363 15 t) 364 (cpRow ((up (begM m) 363 15 t).1 365) ((up (begM m) 363 15 t).1 364) 0 0)) := by
  obtain ⟨hG, hI, h6, hH, h5, hS⟩ := h
  have r363 : ∀ f, f ≠ 15 → (setRow (up (begM m) 363 15 t) 364 (cpRow ((up (begM m) 363 15 t).1 365) ((up (begM m) 363 15 t).1 364) 0 0)).1 363 f = m.1 363 f := fun f hf => by
    rw [setRow_cell _ _ (by decide), up_slot _ _ _ hf, begM_k _ (by decide)]
  have rk : ∀ k, k ≠ 363 → k ≠ 364 → k ≠ 365 → (setRow (up (begM m) 363 15 t) 364 (cpRow ((up (begM m) 363 15 t).1 365) ((up (begM m) 363 15 t).1 364) 0 0)).1 k = m.1 k := fun k a b c => by
    rw [setRow_cell _ _ b, up_cell _ _ _ a, begM_k _ c]
  refine ⟨⟨hG.row (fun k hk => ?_), hI, by rw [r363 6 (by decide)]; exact h6, fun q hq => by rw [rk 368 (by decide) (by decide) (by decide)]; exact hH q hq, by rw [r363 5 (by decide)]; exact h5, fun hs => by rw [rk 367 (by decide) (by decide) (by decide)]; exact hS hs⟩, rfl, fun k a b c _ _ => rk k a b c, fun f a _ => r363 f a⟩
  rw [setRow_same]
  unfold cpRow
  rw [if_pos (by omega), up_cell _ _ _ (by decide), show 0 + (k - 0) = k by omega]
  exact begM_365 m hk
def chP (m M M2 : Mem) (f v0 : Int32) (C : Int32 → Int32 → Prop) : Int32 → Mem → Prop := fun v m2 => ((f = 45 ∧ v = v0 ∧ m2.1 363 15 = 0 ∧ JS m2 M2) ∨ (v = 0 ∧ ∃ t, C f t ∧ m2.1 363 15 = t ∧ JS m2 M)) ∧ MFx m m2
theorem JS.fin {m M M2 ma m2 : Mem} {f v0 x v : Int32} {C : Int32 → Int32 → Prop} (h : JS m M) (hmid : (f = 45 ∧ x = v0 ∧ MFr (up (begM m) 363 15 0) ma ∧ RM (ma.1 364) M2 0) ∨ (∃ t, (C f t ∧ ¬ t = 0) ∧ ma = up (begM m) 363 15 t)) (hX : f = 45 → XL M2 0) (hk : f = 45 → ∀ k, (k = 0 ∨ (61 ≤ k ∧ k < 333)) → M2.1 k = (rem M).1 k) (hend : (ma.1 363 15 = 0 ∧ v = x ∧ m2 = reMM (hc M) ma) ∨ (¬ ma.1 363 15 = 0 ∧ v = 0 ∧ m2 = setRow ma 364 (cpRow (ma.1 365) (ma.1 364) 0 0))) : chP m M M2 f v0 C v m2 := by
  rcases hmid with ⟨hf, hx, hF, hR⟩ | ⟨t, ⟨hC, ht⟩, hma⟩
  · have h15 : ma.1 363 15 = 0 := by rw [hF.2 363 (by decide) (by decide), up_same]
    rcases hend with ⟨_, hv, hm⟩ | ⟨hn, _⟩
    · obtain ⟨h1, h2⟩ := h.ok hF hR (hX hf) (hk hf)
      rw [hm]
      refine ⟨Or.inl ⟨hf, hv.trans hx, ?_, h1⟩, h2⟩
      unfold reMM
      rw [up_slot _ _ _ (by decide), setRow_cell _ _ (by decide)]
      exact h15
    · exact absurd h15 hn
  · have h15 : ma.1 363 15 = t := by rw [hma, up_same]
    rcases hend with ⟨hz, _⟩ | ⟨_, hv, hm⟩
    · rw [h15] at hz; exact absurd hz ht
    · obtain ⟨h1, h2⟩ := h.fail (t := t)
      rw [hm, hma]
      refine ⟨Or.inr ⟨hv, t, hC, ?_, h1⟩, h2⟩
      rw [setRow_cell _ _ (by decide), up_same]
/-! the faults see only the landscape -/
theorem Agr.nl {M M' : Mem} {i : Nat} (h : Agr M M' i) : nLk M' i = nLk M i := by
  have := h 0 (by omega)
  unfold nLk
  rw [show LA i = LA i + 0 from rfl, this]
theorem Agr.nw {M M' : Mem} {i : Nat} (h : Agr M M' i) : nWn M' i = nWn M i := by
  unfold nWn; rw [h 2 (by omega)]
theorem Agr.fPlace {M M' : Mem} {i : Nat} (h : Agr M M' i) (x : Int32) : placeF M' i x = placeF M i x := by
  have := h 0 (by omega)
  unfold placeF
  rw [show LA i = LA i + 0 from rfl, this]
theorem Agr.fGrow {M M' : Mem} {i : Nat} (h : Agr M M' i) (h5 : nLk M i ≤ 5) (x t te : Int32) : growF M' i x t te = growF M i x t te := by
  unfold growF
  rw [h.nl]
  by_cases h1 : 0 ≤ x ∧ x < nI (nLk M i)
  · obtain ⟨j, hxe, hj, hjc⟩ := idx_j h1 (by omega)
    rw [hjc]
    have e0 := h.lk (j := j) (by omega) (o := 0) (by omega)
    have e1 := h.lk (j := j) (by omega) (o := 1) (by omega)
    have ey := h.nly (j := j) (by omega)
    have ei : iceV M' i j = iceV M i j := by unfold iceV; rw [e1, ey]
    rw [Nat.add_zero] at e0
    rw [ei, e0]
  · rw [if_pos h1, if_pos h1]
theorem Agr.fWin {M M' : Mem} {i : Nat} (h : Agr M M' i) (x z : Int32) : winF M' i x z = winF M i x z := by
  have e0 := h 0 (by omega)
  rw [Nat.add_zero] at e0
  unfold winF
  rw [h.nw, e0, h 2 (by omega), h 3 (by omega), h 4 (by omega)]
theorem Agr.wopF {M M' : Mem} {i : Nat} (h : Agr M M' i) (x : Int32) : openF M' i x = openF M i x := by
  unfold openF
  rw [h.nw]
theorem Agr.fRing {M M' : Mem} {i : Nat} (h : Agr M M' i) (h5 : nLk M i ≤ 5) (x y : Int32) : ringF M' i x y = ringF M i x y := by
  unfold ringF
  rw [h.nl]
  by_cases h1 : 0 ≤ x ∧ x < nI (nLk M i)
  · obtain ⟨j, hxe, hj, hjc⟩ := idx_j h1 (by omega)
    rw [hjc, h.nly (j := j) (by omega), h.lk (j := j) (by omega) (o := 2) (by omega)]
  · rw [if_neg (fun z => h1 z.1), if_neg (fun z => h1 z.1)]
