/-! more of the whole row: what keeps the second half of the memory, faults told apart -/
theorem winF_b {M : Mem} {i : Nat} (h6 : nWn M i ≤ 6) (hc : M.1 (LA i + 2) 2 = nI (nWn M i)) {x z : Int32} : winF M i x z = if (decide (x ≤ z) && decide (x ≤ 9999)) = false then 97 else if (decide (nWn M i < 6) && decide (M.1 (LA i) 3 < x)) = false then 115 else if (!meetB (M.1 (LA i + 3)) (M.1 (LA i + 4)) x z (nWn M i)) = false then 117 else 45 := by
  unfold winF
  have e1 : (decide (x ≤ z) && decide (x ≤ 9999)) = false ↔ (z < x ∨ 9999 < x) := by
    rw [Bool.and_eq_false_iff, decide_eq_false_iff_not, decide_eq_false_iff_not, Int32.not_le, Int32.not_le]
  have he : (6 : Int32) ≤ nI (nWn M i) ↔ ¬ nWn M i < 6 := by
    constructor
    · intro w; have := (nI_leI (a := 6) (by decide) (by omega)).mp w; omega
    · intro w; exact (nI_leI (a := 6) (by decide) (by omega)).mpr (by omega)
  have e2 : (decide (nWn M i < 6) && decide (M.1 (LA i) 3 < x)) = false ↔ (6 ≤ nI (nWn M i) ∨ x ≤ M.1 (LA i) 3) := by
    rw [Bool.and_eq_false_iff, decide_eq_false_iff_not, decide_eq_false_iff_not, Int32.not_lt, he]
  rw [hc]
  by_cases h1 : z < x ∨ 9999 < x
  · rw [if_pos h1, if_pos (e1.mpr h1)]
  · rw [if_neg h1, if_neg (fun w => h1 (e1.mp w))]
    by_cases h2 : 6 ≤ nI (nWn M i) ∨ x ≤ M.1 (LA i) 3
    · rw [if_pos h2, if_pos (e2.mpr h2)]
    · rw [if_neg h2, if_neg (fun w => h2 (e2.mp w))]
      cases hm : meetB (M.1 (LA i + 3)) (M.1 (LA i + 4)) x z (nWn M i)
      · rfl
      · rfl
theorem Agr.nl {M M' : Mem} {i : Nat} (h : Agr M M' i) : nLk M' i = nLk M i := by
  have := h 0 (by omega)
  unfold nLk
  rw [show LA i = LA i + 0 from rfl, this]
theorem Agr.nw {M M' : Mem} {i : Nat} (h : Agr M M' i) : nWn M' i = nWn M i := by
  unfold nWn; rw [h 2 (by omega)]
theorem Agr.fPlace {M M' : Mem} {i : Nat} (h : Agr M M' i) (x : Int32) : placeF M' i x = placeF M i x := by
  have := h 0 (by omega)
  unfold placeF
  rw [show LA i = LA i + 0 from rfl, this]
theorem Agr.fGrow {M M' : Mem} {i : Nat} (h : Agr M M' i) (h5 : nLk M i ≤ 5) (x t te : Int32) : growF M' i x t te = growF M i x t te := by
  unfold growF
  rw [h.nl]
  by_cases h1 : 0 ≤ x ∧ x < nI (nLk M i)
  · obtain ⟨j, hxe, hj, hjc⟩ := idx_j h1 (by omega)
    rw [hjc]
    have e0 := h.lk (j := j) (by omega) (o := 0) (by omega)
    have e1 := h.lk (j := j) (by omega) (o := 1) (by omega)
    have ey := h.nly (j := j) (by omega)
    have ei : iceV M' i j = iceV M i j := by unfold iceV; rw [e1, ey]
    rw [Nat.add_zero] at e0
    rw [ei, e0]
  · rw [if_pos h1, if_pos h1]
theorem Agr.fWin {M M' : Mem} {i : Nat} (h : Agr M M' i) (x z : Int32) : winF M' i x z = winF M i x z := by
  have e0 := h 0 (by omega)
  rw [Nat.add_zero] at e0
  unfold winF
  rw [h.nw, e0, h 2 (by omega), h 3 (by omega), h 4 (by omega)]
theorem Agr.wopF {M M' : Mem} {i : Nat} (h : Agr M M' i) (x : Int32) : openF M' i x = openF M i x := by
  unfold openF
  rw [h.nw]
theorem Agr.fRing {M M' : Mem} {i : Nat} (h : Agr M M' i) (h5 : nLk M i ≤ 5) (x y : Int32) : ringF M' i x y = ringF M i x y := by
  unfold ringF
  rw [h.nl]
  by_cases h1 : 0 ≤ x ∧ x < nI (nLk M i)
  · obtain ⟨j, hxe, hj, hjc⟩ := idx_j h1 (by omega)
    rw [hjc, h.nly (j := j) (by omega), h.lk (j := j) (by omega) (o := 2) (by omega)]
  · rw [if_neg (fun z => h1 z.1), if_neg (fun z => h1 z.1)]
theorem winF_ok2 {M : Mem} {i : Nat} (hL : LW M i) {x z : Int32} (h : winF M i x z = 45) : x ≤ z ∧ nWn M i < 6 ∧ meetB (M.1 (LA i + 3)) (M.1 (LA i + 4)) x z (nWn M i) = false := by
  rw [winF_b hL.wr.2 hL.wr.1] at h
  split at h
  · exact absurd h (by decide)
  · rename_i h1
    split at h
    · exact absurd h (by decide)
    · rename_i h2
      split at h
      · exact absurd h (by decide)
      · rename_i h3
        have a1 : (decide (x ≤ z) && decide (x ≤ 9999)) = true := by
          cases hb : (decide (x ≤ z) && decide (x ≤ 9999))
          · exact absurd hb h1
          · rfl
        have a2 : (decide (nWn M i < 6) && decide (M.1 (LA i) 3 < x)) = true := by
          cases hb : (decide (nWn M i < 6) && decide (M.1 (LA i) 3 < x))
          · exact absurd hb h2
          · rfl
        rw [Bool.and_eq_true] at a1 a2
        refine ⟨of_decide_eq_true a1.1, of_decide_eq_true a2.1, ?_⟩
        cases hm : meetB (M.1 (LA i + 3)) (M.1 (LA i + 4)) x z (nWn M i)
        · rfl
        · rw [hm] at h3; exact absurd rfl h3
theorem two_cpLks (i i2 : Nat) (m : Mem) : ∀ q, (cpLks i i2 m q).2 = m.2
  | 0 => rfl
  | q + 1 => two_cpLks i i2 m q
theorem two_cpLand (i i2 : Nat) (m : Mem) : (cpLand i i2 m).2 = m.2 := two_cpLks i i2 m _
theorem two_rem (m : Mem) : (rem m).2 = m.2 := two_cpLand _ _ m
theorem two_save (m : Mem) : (saveM m).2 = m.2 := two_cpLand _ _ _
theorem two_rest (m : Mem) : (restM m).2 = m.2 := two_cpLand _ _ _
theorem two_push (i j N : Nat) (x : Int32) (m : Mem) : (pushM i j N x m).2 = m.2 := by unfold pushM; split <;> rfl
theorem two_ck (num hr : Int32) (i j N : Nat) (m : Mem) : ∀ q, (ckM num hr i j N m q).2 = m.2
  | 0 => rfl
  | q + 1 => by
    have ih := two_ck num hr i j N m q
    show (ckStep num hr i j N q (ckM num hr i j N m q)).2 = m.2
    unfold ckStep
    split
    · rw [two_push, two_push]; exact ih
    · exact ih
theorem two_lk2 (i j : Nat) (rest : Bool) (m : Mem) : (lk2 i j rest m).2 = m.2 := by unfold lk2; split <;> rfl
theorem two_thaw (i j N : Nat) (air : Int32) (m : Mem) : (thawM i j N air m).2 = m.2 := by
  unfold thawM
  split
  · rfl
  · split <;> rfl
theorem two_step (i j : Nat) (rest : Bool) (m : Mem) : (lkStep i j rest m).2 = m.2 := by
  show (thawM i j (nLy m i j) (m.1 (LA i) 2) (lk3 i j rest m)).2 = m.2
  rw [two_thaw]
  show (ckM (nI j) (m.1 (LA i) 3) i j (nLy m i j) (lk2 i j rest m) (nLy m i j)).2 = m.2
  rw [two_ck, two_lk2]
theorem two_lks (i : Nat) (rest : Bool) (m : Mem) : ∀ q, (lksM i rest m q).2 = m.2
  | 0 => rfl
  | q + 1 => (two_step i q rest (lksM i rest m q)).trans (two_lks i rest m q)
theorem two_hours (i : Nat) (m : Mem) : ∀ q, (hoursM i m q).2 = m.2
  | 0 => rfl
  | q + 1 => (two_lks i _ (hourM0 i (hoursM i m q)) _).trans (two_hours i m q)
/-- the class's landscapes alone have moved -/
def CV (m m' : Mem) : Prop := m'.2 = m.2 ∧ (∀ k, 333 ≤ k → k ≠ 362 → m'.1 k = m.1 k) ∧ ∀ f, f ≠ 3 → m'.1 0 f = m.1 0 f
theorem CV.trans {m m' m2 : Mem} (h : CV m m') (h2 : CV m' m2) : CV m m2 := ⟨h2.1.trans h.1, fun k a b => (h2.2.1 k a b).trans (h.2.1 k a b), fun f a => (h2.2.2 f a).trans (h.2.2 f a)⟩
theorem CV.mk' {m m' : Mem} (h1 : m'.2 = m.2) (h2 : ∀ k, (k = 0 ∨ 333 ≤ k) → m'.1 k = m.1 k) : CV m m' := ⟨h1, fun k a _ => h2 k (Or.inr a), fun f _ => by rw [h2 0 (Or.inl rfl)]⟩
theorem CV.rem {m : Mem} (hI : CI m) : CV m (rem m) := CV.mk' (two_rem m) (fun k hk => remH_cell hI.1.nl5 (by have := LA_3 (hw m); have := hI.2.1.2.1; omega) (by omega))
theorem faultE_inv {f : Int32} {E : String} (h : faultE f = some E) : (f = 98 ∧ E = "java/lang/IndexOutOfBoundsException") ∨ (f = 97 ∧ E = "java/lang/IllegalArgumentException") ∨ (f = 115 ∧ E = "java/lang/IllegalStateException") ∨ (f = 117 ∧ E = "java/lang/UnsupportedOperationException") := by
  unfold faultE at h
  split at h
  · rename_i e; exact Or.inl ⟨e, (Option.some.inj h).symm⟩
  · split at h
    · rename_i e; exact Or.inr (Or.inl ⟨e, (Option.some.inj h).symm⟩)
    · split at h
      · rename_i e; exact Or.inr (Or.inr (Or.inl ⟨e, (Option.some.inj h).symm⟩))
      · split at h
        · rename_i e; exact Or.inr (Or.inr (Or.inr ⟨e, (Option.some.inj h).symm⟩))
        · cases h
theorem fault_IO {f : Int32} (h : faultE f = some "java/lang/IndexOutOfBoundsException") : f = 98 := by
  rcases faultE_inv h with ⟨e, _⟩ | ⟨_, z⟩ | ⟨_, z⟩ | ⟨_, z⟩
  · exact e
  all_goals exact absurd z (by decide)
theorem fault_IA {f : Int32} (h : faultE f = some "java/lang/IllegalArgumentException") : f = 97 := by
  rcases faultE_inv h with ⟨_, z⟩ | ⟨e, _⟩ | ⟨_, z⟩ | ⟨_, z⟩
  · exact absurd z (by decide)
  · exact e
  all_goals exact absurd z (by decide)
theorem fault_IS {f : Int32} (h : faultE f = some "java/lang/IllegalStateException") : f = 115 := by
  rcases faultE_inv h with ⟨_, z⟩ | ⟨_, z⟩ | ⟨e, _⟩ | ⟨_, z⟩
  · exact absurd z (by decide)
  · exact absurd z (by decide)
  · exact e
  · exact absurd z (by decide)
theorem fault_UO {f : Int32} (h : faultE f = some "java/lang/UnsupportedOperationException") : f = 117 := by
  rcases faultE_inv h with ⟨_, z⟩ | ⟨_, z⟩ | ⟨_, z⟩ | ⟨e, _⟩
  · exact absurd z (by decide)
  · exact absurd z (by decide)
  · exact absurd z (by decide)
  · exact e
theorem placeF_cs (m : Mem) (i : Nat) (x : Int32) : placeF m i x = 45 ∨ placeF m i x = 97 ∨ placeF m i x = 115 := by
  unfold placeF
  split
  · exact Or.inr (Or.inl rfl)
  · split
    · exact Or.inl rfl
    · exact Or.inr (Or.inr rfl)
theorem airF_cs (x : Int32) : airF x = 45 ∨ airF x = 97 := by
  unfold airF
  split
  · exact Or.inr rfl
  · exact Or.inl rfl
theorem passF_cs (x : Int32) : passF x = 45 ∨ passF x = 97 := by
  unfold passF
  split
  · exact Or.inr rfl
  · exact Or.inl rfl
theorem winF_cs (m : Mem) (i : Nat) (x z : Int32) : winF m i x z = 45 ∨ winF m i x z = 97 ∨ winF m i x z = 115 ∨ winF m i x z = 117 := by
  unfold winF
  split
  · exact Or.inr (Or.inl rfl)
  · split
    · exact Or.inr (Or.inr (Or.inl rfl))
    · split
      · exact Or.inr (Or.inr (Or.inr rfl))
      · exact Or.inl rfl
theorem openF_cs (m : Mem) (i : Nat) (x : Int32) : openF m i x = 45 ∨ openF m i x = 98 := by
  unfold openF
  split
  · exact Or.inl rfl
  · exact Or.inr rfl
theorem ringF_cs (m : Mem) (i : Nat) (x y : Int32) : ringF m i x y = 45 ∨ ringF m i x y = 98 ∨ ringF m i x y = 117 := by
  unfold ringF
  split
  · split
    · exact Or.inr (Or.inr rfl)
    · exact Or.inl rfl
  · exact Or.inr (Or.inl rfl)
theorem growF_cs (m : Mem) (i : Nat) (x t te : Int32) : growF m i x t te = 45 ∨ growF m i x t te = 98 ∨ growF m i x t te = 97 ∨ growF m i x t te = 115 ∨ growF m i x t te = 117 := by
  unfold growF
  split
  · exact Or.inr (Or.inl rfl)
  · split
    · exact Or.inr (Or.inr (Or.inl rfl))
    · split
      · exact Or.inr (Or.inr (Or.inr (Or.inl rfl)))
      · split
        · exact Or.inr (Or.inr (Or.inr (Or.inr rfl)))
        · exact Or.inl rfl
theorem two_ring (i j y : Nat) (m : Mem) : (ringM i j y m).2 = m.2 := rfl
