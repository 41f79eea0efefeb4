/-! what stands of a landscape's peals and strains: kept by every change and by hours -/
def PQ (h n : Nat) (M : Mem) (i : Nat) : Prop := ∃ H : Nat → Nat, (∀ q, q < cOf M i → M.1 (LA i + 9) (psl M i q) = nI (H q) ∧ H q ≤ h) ∧ (∀ q, q + 1 < cOf M i → H (q + 1) ≤ H q) ∧ ∀ q, q < cOf M i → (M.1 (LA i + 6) (psl M i q) = 99 ∨ (M.1 (LA i + 6) (psl M i q) = 115 ∧ 0 < M.1 (LA i + 8) (psl M i q))) ∧ ∃ j, j < n ∧ M.1 (LA i + 7) (psl M i q) = nI j
def SB (S : Nat → Int32) (N b : Nat) : Prop := ∀ y, y < N → ∃ s, s ≤ b ∧ S y = nI s
def SN (M : Mem) (i : Nat) : Prop := ∀ j, j < nLk M i → SB (M.1 (LK i j + 3)) (nLy M i j) 34
def PI (K : Nat) (M : Mem) (i : Nat) : Prop := ∃ h, h ≤ K ∧ M.1 (LA i) 3 = nI h ∧ PQ h (nLk M i) M i ∧ SN M i
theorem PQ.mono {h h' n n' : Nat} {M : Mem} {i : Nat} (p : PQ h n M i) (a : h ≤ h') (b : n ≤ n') : PQ h' n' M i := by
  obtain ⟨H, p1, p2, p3⟩ := p
  exact ⟨H, fun q hq => ⟨(p1 q hq).1, by have := (p1 q hq).2; omega⟩, p2, fun q hq => ⟨(p3 q hq).1, by obtain ⟨j, c, d⟩ := (p3 q hq).2; exact ⟨j, by omega, d⟩⟩⟩
theorem PQ.cells {h n : Nat} {M M' : Mem} {i : Nat} (p : PQ h n M i) (hc : ∀ o, 5 ≤ o → o ≤ 9 → M'.1 (LA i + o) = M.1 (LA i + o)) : PQ h n M' i := by
  have ew : wOf M' i = wOf M i := by unfold wOf; rw [hc 5 (by omega) (by omega)]
  have ec : cOf M' i = cOf M i := by unfold cOf; rw [hc 5 (by omega) (by omega)]
  have es : ∀ q, psl M' i q = psl M i q := fun q => by unfold psl; rw [ew]
  obtain ⟨H, p1, p2, p3⟩ := p
  refine ⟨H, fun q hq => ?_, fun q hq => p2 q (by rw [← ec]; exact hq), fun q hq => ?_⟩
  · rw [ec] at hq
    rw [es, hc 9 (by omega) (by omega)]
    exact p1 q hq
  · rw [ec] at hq
    rw [es, hc 6 (by omega) (by omega), hc 7 (by omega) (by omega), hc 8 (by omega) (by omega)]
    exact p3 q hq
theorem psl_lt (M : Mem) (i q : Nat) : psl M i q < 16 := by unfold psl; omega
theorem PQ.sm {h n : Nat} {M M' : Mem} {i i' : Nat} (p : PQ h n M i) (hs : Sm M M' i i') : PQ h n M' i' := by
  have ec : cOf M' i' = cOf M i := hs.pc
  have es : ∀ q, psl M' i' q = psl M i q := fun q => by unfold psl; rw [hs.pw]
  obtain ⟨H, p1, p2, p3⟩ := p
  refine ⟨H, fun q hq => ?_, fun q hq => p2 q (by rw [← ec]; exact hq), fun q hq => ?_⟩
  · rw [ec] at hq
    rw [es, hs.p 9 (by omega) (by omega) _ (psl_lt _ _ _)]
    exact p1 q hq
  · rw [ec] at hq
    rw [es, hs.p 6 (by omega) (by omega) _ (psl_lt _ _ _), hs.p 7 (by omega) (by omega) _ (psl_lt _ _ _), hs.p 8 (by omega) (by omega) _ (psl_lt _ _ _)]
    exact p3 q hq
theorem PQ.recd {h n : Nat} {M : Mem} {i j : Nat} {kd pt : Int32} (p : PQ h n M i) (hP : PR M i (wOf M i) (cOf M i)) (hj : j < n) (hk : kd = 99 ∨ (kd = 115 ∧ 0 < pt)) : PQ h n (recM i (wOf M i) (cOf M i) kd (nI j) pt (nI h) M) i := by
  obtain ⟨p1, p2, p3, p4⟩ := recM_PR (i := i) (w := wOf M i) (cn := cOf M i) (kd := kd) (lk := nI j) (pt := pt) (hr := nI h) (m := M)
  have hw := hP.2.1
  have hc := hP.2.2.2
  obtain ⟨M', hM⟩ : ∃ M', M' = recM i (wOf M i) (cOf M i) kd (nI j) pt (nI h) M := ⟨_, rfl⟩
  rw [← hM] at p1 p3 ⊢
  have ew : wOf M' i = (wOf M i + 1) % 16 := by
    show (M'.1 (LA i + 5) 5).toNatClampNeg = _
    rw [p1, nI_clamp (by omega)]
  have ec : cOf M' i = min (cOf M i + 1) 16 := by
    show (M'.1 (LA i + 5) 4).toNatClampNeg = _
    rw [p3, nI_clamp (by omega)]
  have e0 : psl M' i 0 = wOf M i := by unfold psl; rw [ew]; omega
  have es : ∀ q, q < 15 → psl M' i (q + 1) = psl M i q := fun q hq => by unfold psl; rw [ew]; omega
  have ne : ∀ q, q < 15 → psl M i q ≠ wOf M i := fun q hq => by unfold psl; omega
  have a6 : ∀ s, M'.1 (LA i + 6) s = if s = wOf M i then kd else M.1 (LA i + 6) s := fun s => by
    rw [hM]; unfold recM
    rw [up_cell _ _ _ (by omega), up_cell _ _ _ (by omega), up_cell _ _ _ (by omega), up_cell _ _ _ (by omega), up_cell _ _ _ (by omega)]
    by_cases e : s = wOf M i
    · subst e; rw [up_same, if_pos rfl]
    · rw [up_slot _ _ _ e, if_neg e]
  have a7 : ∀ s, M'.1 (LA i + 7) s = if s = wOf M i then nI j else M.1 (LA i + 7) s := fun s => by
    rw [hM]; unfold recM
    rw [up_cell _ _ _ (by omega), up_cell _ _ _ (by omega), up_cell _ _ _ (by omega), up_cell _ _ _ (by omega)]
    by_cases e : s = wOf M i
    · subst e; rw [up_same, if_pos rfl]
    · rw [up_slot _ _ _ e, if_neg e, up_cell _ _ _ (by omega)]
  have a8 : ∀ s, M'.1 (LA i + 8) s = if s = wOf M i then pt else M.1 (LA i + 8) s := fun s => by
    rw [hM]; unfold recM
    rw [up_cell _ _ _ (by omega), up_cell _ _ _ (by omega), up_cell _ _ _ (by omega)]
    by_cases e : s = wOf M i
    · subst e; rw [up_same, if_pos rfl]
    · rw [up_slot _ _ _ e, if_neg e, up_cell _ _ _ (by omega), up_cell _ _ _ (by omega)]
  have a9 : ∀ s, M'.1 (LA i + 9) s = if s = wOf M i then nI h else M.1 (LA i + 9) s := fun s => by
    rw [hM]; unfold recM
    rw [up_cell _ _ _ (by omega), up_cell _ _ _ (by omega)]
    by_cases e : s = wOf M i
    · subst e; rw [up_same, if_pos rfl]
    · rw [up_slot _ _ _ e, if_neg e, up_cell _ _ _ (by omega), up_cell _ _ _ (by omega), up_cell _ _ _ (by omega)]
  obtain ⟨H, q1, q2, q3⟩ := p
  obtain ⟨H', h0, hs⟩ : ∃ H' : Nat → Nat, H' 0 = h ∧ ∀ q, H' (q + 1) = H q := ⟨fun q => match q with | 0 => h | q + 1 => H q, rfl, fun _ => rfl⟩
  refine ⟨H', fun q hq => ?_, fun q hq => ?_, fun q hq => ?_⟩
  · rw [ec] at hq
    cases q with
    | zero => rw [e0, a9, if_pos rfl, h0]; exact ⟨rfl, Nat.le_refl _⟩
    | succ q =>
      rw [es q (by omega), a9, if_neg (ne q (by omega)), hs]
      exact q1 q (by omega)
  · rw [ec] at hq
    rw [hs]
    cases q with
    | zero => rw [h0]; exact (q1 0 (by omega)).2
    | succ q => rw [hs]; exact q2 q (by omega)
  · rw [ec] at hq
    cases q with
    | zero =>
      rw [e0, a6, a7, a8, if_pos rfl, if_pos rfl, if_pos rfl]
      exact ⟨hk, j, hj, rfl⟩
    | succ q =>
      rw [es q (by omega), a6, a7, a8, if_neg (ne q (by omega)), if_neg (ne q (by omega)), if_neg (ne q (by omega))]
      exact q3 q (by omega)
theorem PI.sm {K : Nat} {M M' : Mem} {i i' : Nat} (p : PI K M i) (hL : LW M i) (hs : Sm M M' i i') : PI K M' i' := by
  obtain ⟨h, a, b, c, d⟩ := p
  refine ⟨h, a, by rw [hs.f 3 (by omega) (by omega)]; exact b, by rw [hs.nl]; exact c.sm hs, fun j hj y hy => ?_⟩
  rw [hs.nl] at hj
  rw [hs.ny hj] at hy
  have := (hL.ln hj).2
  rw [hs.r j hj 3 (by omega) (by omega) y (by omega)]
  exact d j hj y hy
theorem PI.mono {K K' : Nat} {M : Mem} {i : Nat} (p : PI K M i) (hK : K ≤ K') : PI K' M i := by
  obtain ⟨h, a, b⟩ := p
  exact ⟨h, by omega, b⟩
/-- nothing but windows, air, totals changed -/
theorem PI.keep {K : Nat} {M M' : Mem} {i : Nat} (p : PI K M i) (h5 : nLk M i ≤ 5) (h1 : M'.1 (LA i) 1 = M.1 (LA i) 1) (h3 : M'.1 (LA i) 3 = M.1 (LA i) 3) (hc : ∀ o, 5 ≤ o → o < 30 → M'.1 (LA i + o) = M.1 (LA i + o)) : PI K M' i := by
  obtain ⟨h, a, b, c, d⟩ := p
  have en : nLk M' i = nLk M i := by unfold nLk; rw [h1]
  refine ⟨h, a, by rw [h3]; exact b, by rw [en]; exact c.cells (fun o o5 o9 => hc o o5 (by omega)), fun j hj => ?_⟩
  rw [en] at hj
  have e1 : M'.1 (LK i j + 3) = M.1 (LK i j + 3) := by rw [LKo]; exact hc _ (by omega) (by omega)
  have e2 : nLy M' i j = nLy M i j := by unfold nLy; rw [LKo0, hc _ (by omega) (by omega)]
  rw [e1, e2]
  exact d j hj
theorem PI.air {K : Nat} {M : Mem} {i : Nat} {t : Int32} (p : PI K M i) (h5 : nLk M i ≤ 5) : PI K (up M (LA i) 2 t) i := p.keep h5 (up_slot _ _ _ (by decide)) (up_slot _ _ _ (by decide)) (fun o _ _ => up_cell _ _ _ (by omega))
theorem PI.ins {K : Nat} {M : Mem} {i n : Nat} {x z : Int32} (p : PI K M i) (h5 : nLk M i ≤ 5) : PI K (insM i n x z M) i := p.keep h5 (congrFun (insM_cell (by omega)) 1) (congrFun (insM_cell (by omega)) 3) (fun o _ _ => insM_cell (by omega))
theorem PI.rm {K : Nat} {M : Mem} {i n a : Nat} (p : PI K M i) (h5 : nLk M i ≤ 5) : PI K (rmM i n a M) i := p.keep h5 (congrFun (rmM_cell (by omega)) 1) (congrFun (rmM_cell (by omega)) 3) (fun o _ _ => rmM_cell (by omega))
theorem PI.place {K : Nat} {M : Mem} {i : Nat} {d : Int32} (p : PI K M i) (h5 : nLk M i < 5) : PI K (placeM i d M) i := by
  have hg := LK_ge i (nLk M i)
  have hn : nLk (placeM i d M) i = nLk M i + 1 := by
    unfold placeM
    show ((up _ (LA i) 1 (nI (nLk M i + 1))).1 (LA i) 1).toNatClampNeg = _
    rw [up_same, nI_clamp (by omega)]
  obtain ⟨h, a, b, c, e⟩ := p
  refine ⟨h, a, ?_, ?_, fun j hj => ?_⟩
  · unfold placeM
    rw [up_slot _ _ _ (by decide), up_cell _ _ _ (by omega), up_cell _ _ _ (by omega), up_cell _ _ _ (by omega)]
    exact b
  · rw [hn]
    exact (c.mono (Nat.le_refl _) (by omega)).cells (fun o _ _ => placeM_cell (by omega) (by omega))
  · rw [hn] at hj
    have e2 : LK i (nLk M i) = LA i + 10 + 4 * nLk M i := rfl
    have e1 : LK i j = LA i + 10 + 4 * j := rfl
    by_cases ej : j = nLk M i
    · subst ej
      have h0 : nLy (placeM i d M) i (nLk M i) = 0 := by
        unfold nLy placeM
        rw [up_cell _ _ _ (by omega), up_slot _ _ _ (by decide), up_same]
        rfl
      intro y hy
      rw [h0] at hy
      omega
    · rw [placeM_cell (by omega) (by omega), show nLy (placeM i d M) i j = nLy M i j by unfold nLy; rw [placeM_cell (by omega) (by omega)]]
      exact e j (by omega)
theorem PI.grow {K : Nat} {M : Mem} {i j : Nat} {t te : Int32} (p : PI K M i) (hL : LW M i) (hj : j < nLk M i) (h7 : nLy M i j < 8) : PI K (growM i j t te M) i := by
  have hg := LK_ge i j
  obtain ⟨h, a, b, c, e⟩ := p
  have hn : nLk (growM i j t te M) i = nLk M i := by
    unfold nLk growM
    rw [up_cell _ _ _ (by omega), up_cell _ _ _ (by omega), up_cell _ _ _ (by omega), up_cell _ _ _ (by omega), up_slot _ _ _ (by decide)]
  refine ⟨h, a, ?_, ?_, fun j' hj' => ?_⟩
  · unfold growM
    rw [up_cell _ _ _ (by omega), up_cell _ _ _ (by omega), up_cell _ _ _ (by omega), up_cell _ _ _ (by omega), up_slot _ _ _ (by decide)]
    exact b
  · rw [hn]
    exact c.cells (fun o _ _ => growM_cell (by omega) (by omega))
  · rw [hn] at hj'
    have e2 : LK i j' = LA i + 10 + 4 * j' := rfl
    have e1 : LK i j = LA i + 10 + 4 * j := rfl
    by_cases ej : j' = j
    · subst ej
      have h0 : nLy (growM i j' t te M) i j' = nLy M i j' + 1 := by
        unfold nLy growM
        rw [up_same]
        exact nI_clamp (by omega)
      rw [h0]
      intro y hy
      unfold growM
      rw [up_cell _ _ _ (by omega)]
      by_cases ey : y = nLy M i j'
      · subst ey
        rw [up_same]
        exact ⟨0, by omega, rfl⟩
      · rw [up_slot _ _ _ ey, up_cell _ _ _ (by omega), up_cell _ _ _ (by omega), up_cell _ _ _ (by omega)]
        exact e j' hj' y (by omega)
    · rw [growM_cell (by omega) (by omega), show nLy (growM i j t te M) i j' = nLy M i j' by unfold nLy; rw [growM_cell (by omega) (by omega)]]
      exact e j' hj'
theorem pitch_pos {K T : Nat → Int32} {N q : Nat} (h : VB K T N) (hq : q < N) (h0 : ¬ T q = 0) : 0 < pitchV K T q := by
  have H : ∀ k : Fin 51, ∀ t : Fin 40, 0 < 100 / (if 1 < nI k.1 then nI k.1 else 1) - (nI t.1 - 40) := by decide +kernel
  obtain ⟨k, hk, e⟩ := nI_of (x := K q) (Int32.not_lt.mpr (Int32.le_trans (show (0 : Int32) ≤ 1 by decide) (h q hq).1.1))
  have a := (h q hq).1.2
  rw [e] at a
  have a2 := (nI_leI (b := 50) (by omega) (by decide)).mp a
  obtain ⟨t, ht, e2⟩ := off40 (h q hq).2.1 (Int32.le_trans (h q hq).2.2 (by decide))
  have b := (h q hq).2.2
  rw [e2] at b h0
  have ht2 : t < 40 := by
    have G : ∀ t : Fin 61, nI t.1 - 40 ≤ 0 → ¬ nI t.1 - 40 = 0 → t.1 < 40 := by decide +kernel
    exact G ⟨t, ht⟩ b h0
  unfold pitchV
  rw [e, e2]
  exact H ⟨k, by omega⟩ ⟨t, by omega⟩
theorem PI.ring {K : Nat} {M : Mem} {i j y : Nat} (p : PI K M i) (hX : XL M i) (hL : LW M i) (hj : j < nLk M i) (hy : y < nLy M i j) (h0 : ¬ M.1 (LK i j + 2) y = 0) : PI K (ringM i j y M) i := by
  obtain ⟨h, a, b, c, e⟩ := p
  have hn : nLk (ringM i j y M) i = nLk M i := by unfold nLk ringM; rw [recM_cell (by omega)]
  refine ⟨h, a, ?_, ?_, fun j' hj' => ?_⟩
  · unfold ringM; rw [recM_cell (by omega)]; exact b
  · rw [hn]
    unfold ringM
    rw [b]
    exact c.recd hL.pr hj (Or.inr ⟨rfl, pitch_pos (hX.1.1 j hj) hy h0⟩)
  · rw [hn] at hj'
    have hg := LK_ge i j'
    rw [show nLy (ringM i j y M) i j' = nLy M i j' by unfold nLy ringM; rw [recM_cell (by omega)]]
    unfold ringM
    rw [recM_cell (by omega)]
    exact e j' hj'
