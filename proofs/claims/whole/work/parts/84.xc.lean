/-! the cracks' bound, and a ring of peals that is not full begins at its first place -/
def PL (M : Mem) (i : Nat) : Prop := cOf M i < 16 → wOf M i = cOf M i
def CB (K : Nat) (M : Mem) (i : Nat) : Prop := ∀ j, j < nLk M i → ∃ c, c ≤ K ∧ M.1 (LK i j) 5 = nI c
def XC (K : Nat) (M : Mem) (i : Nat) : Prop := CB K M i ∧ PL M i
theorem PL.cell {M M' : Mem} {i : Nat} (h : PL M i) (he : M'.1 (LA i + 5) = M.1 (LA i + 5)) : PL M' i := by
  unfold PL wOf cOf at h ⊢
  rw [he]
  exact h
theorem XC.mono {K K' : Nat} {M : Mem} {i : Nat} (h : XC K M i) (hK : K ≤ K') : XC K' M i := ⟨fun j hj => by obtain ⟨c, h1, h2⟩ := h.1 j hj; exact ⟨c, by omega, h2⟩, h.2⟩
theorem XC.sm {K : Nat} {M M' : Mem} {i i' : Nat} (h : XC K M i) (hs : Sm M M' i i') : XC K M' i' := by
  refine ⟨fun j hj => ?_, fun hc => ?_⟩
  · rw [hs.nl] at hj
    obtain ⟨c, h1, h2⟩ := h.1 j hj
    exact ⟨c, h1, (hs.k j hj 5 (by omega) (by omega)).trans h2⟩
  · rw [hs.pc] at hc ⊢
    rw [hs.pw]
    exact h.2 hc
theorem XC.keep {K : Nat} {M M' : Mem} {i : Nat} (h : XC K M i) (h5 : nLk M i ≤ 5) (h1 : M'.1 (LA i) 1 = M.1 (LA i) 1) (h2 : ∀ j, j < 5 → M'.1 (LK i j) 5 = M.1 (LK i j) 5) (h3 : M'.1 (LA i + 5) = M.1 (LA i + 5)) : XC K M' i := by
  have e : nLk M' i = nLk M i := by unfold nLk; rw [h1]
  refine ⟨fun j hj => ?_, h.2.cell h3⟩
  rw [e] at hj
  obtain ⟨c, a, b⟩ := h.1 j hj
  exact ⟨c, a, (h2 j (by omega)).trans b⟩
theorem XC.air {K : Nat} {M : Mem} {i : Nat} {t : Int32} (h : XC K M i) (h5 : nLk M i ≤ 5) : XC K (up M (LA i) 2 t) i := by
  refine h.keep h5 (up_slot _ _ _ (by decide)) (fun j hj => ?_) (up_cell _ _ _ (by omega))
  have := LK_ge i j
  rw [up_cell _ _ _ (by omega)]
theorem XC.ins {K : Nat} {M : Mem} {i n : Nat} {x z : Int32} (h : XC K M i) (h5 : nLk M i ≤ 5) : XC K (insM i n x z M) i := by
  refine h.keep h5 (by rw [insM_cell (by omega)]) (fun j hj => ?_) (insM_cell (by omega))
  have := LK_ge i j
  rw [insM_cell (by omega)]
theorem XC.rm {K : Nat} {M : Mem} {i n a : Nat} (h : XC K M i) (h5 : nLk M i ≤ 5) : XC K (rmM i n a M) i := by
  refine h.keep h5 (by rw [rmM_cell (by omega)]) (fun j hj => ?_) (rmM_cell (by omega))
  have := LK_ge i j
  rw [rmM_cell (by omega)]
theorem XC.grow {K : Nat} {M : Mem} {i j : Nat} {t te : Int32} (h : XC K M i) (h5 : nLk M i ≤ 5) : XC K (growM i j t te M) i := by
  have hg := LK_ge i j
  refine h.keep h5 ?_ (fun j' hj => ?_) (growM_cell (by omega) (by omega))
  · unfold growM
    rw [up_cell _ _ _ (by omega), up_cell _ _ _ (by omega), up_cell _ _ _ (by omega), up_cell _ _ _ (by omega), up_slot _ _ _ (by decide)]
  · have hg' := LK_ge i j'
    have e1 : LK i j = LA i + 10 + 4 * j := rfl
    have e2 : LK i j' = LA i + 10 + 4 * j' := rfl
    unfold growM
    rw [up_nf _ _ (Or.inr (by decide)), up_cell _ _ _ (by omega), up_cell _ _ _ (by omega), up_cell _ _ _ (by omega), up_cell _ _ _ (by omega)]
theorem XC.place {K : Nat} {M : Mem} {i : Nat} {d : Int32} (h : XC K M i) (h5 : nLk M i < 5) : XC K (placeM i d M) i := by
  have hg := LK_ge i (nLk M i)
  have hn : nLk (placeM i d M) i = nLk M i + 1 := by
    unfold placeM
    show ((up _ (LA i) 1 (nI (nLk M i + 1))).1 (LA i) 1).toNatClampNeg = _
    rw [up_same, nI_clamp (by omega)]
  refine ⟨fun j hj => ?_, h.2.cell (placeM_cell (by omega) (by omega))⟩
  rw [hn] at hj
  by_cases e : j = nLk M i
  · subst e
    refine ⟨0, Nat.zero_le _, ?_⟩
    unfold placeM
    rw [up_cell _ _ _ (by omega), up_same]
    rfl
  · obtain ⟨c, a, b⟩ := h.1 j (by omega)
    have e1 : LK i j = LA i + 10 + 4 * j := rfl
    have e2 : LK i (nLk M i) = LA i + 10 + 4 * nLk M i := rfl
    exact ⟨c, a, by rw [placeM_cell (by omega) (by omega)]; exact b⟩
theorem PL.rec {M : Mem} {i : Nat} {kd lk pt hr : Int32} (h : PL M i) (hP : PR M i (wOf M i) (cOf M i)) : PL (recM i (wOf M i) (cOf M i) kd lk pt hr M) i := by
  obtain ⟨p1, p2, p3, p4⟩ := recM_PR (i := i) (w := wOf M i) (cn := cOf M i) (kd := kd) (lk := lk) (pt := pt) (hr := hr) (m := M)
  have hw := hP.2.1
  have hc := hP.2.2.2
  have ew : wOf (recM i (wOf M i) (cOf M i) kd lk pt hr M) i = (wOf M i + 1) % 16 := by
    unfold wOf at p1 p2 ⊢
    rw [p1, nI_clamp (by omega)]
  have ec : cOf (recM i (wOf M i) (cOf M i) kd lk pt hr M) i = min (cOf M i + 1) 16 := by
    unfold cOf at p3 p4 ⊢
    rw [p3, nI_clamp (by omega)]
  intro hlt
  rw [ec] at hlt ⊢
  rw [ew]
  have := h (by omega)
  omega
theorem XC.ring {K : Nat} {M : Mem} {i j y : Nat} (h : XC K M i) (hL : LW M i) : XC K (ringM i j y M) i := by
  have hn : nLk (ringM i j y M) i = nLk M i := by unfold nLk ringM; rw [recM_cell (by omega)]
  refine ⟨fun j' hj => ?_, h.2.rec hL.2.2.2.1⟩
  rw [hn] at hj
  obtain ⟨c, a, b⟩ := h.1 j' hj
  have := LK_ge i j'
  exact ⟨c, a, by unfold ringM; rw [recM_cell (by omega)]; exact b⟩
theorem ckM_PL {num hr : Int32} {i j N : Nat} {M : Mem} (hP : PR M i (wOf M i) (cOf M i)) (h : PL M i) : ∀ q, PR (ckM num hr i j N M q) i (wOf (ckM num hr i j N M q) i) (cOf (ckM num hr i j N M q) i) ∧ PL (ckM num hr i j N M q) i
  | 0 => ⟨hP, h⟩
  | q + 1 => by
    obtain ⟨h1, h2⟩ := ckM_PL hP h q
    have hg := LK_ge i j
    show PR (ckStep num hr i j N q (ckM num hr i j N M q)) i (wOf (ckStep num hr i j N q (ckM num hr i j N M q)) i) (cOf (ckStep num hr i j N q (ckM num hr i j N M q)) i) ∧ PL (ckStep num hr i j N q (ckM num hr i j N M q)) i
    obtain ⟨m, hm⟩ : ∃ m, m = ckM num hr i j N M q := ⟨_, rfl⟩
    rw [← hm] at h1 h2 ⊢
    unfold ckStep
    split
    · have e : (pushM i j N (nI (q + 1)) (pushM i j N (nI q - 1) (up (recM i (wOf m i) (cOf m i) 99 num (ckPitch m i j q) hr m) (LK i j + 3) q 0))).1 (LA i + 5) = (recM i (wOf m i) (cOf m i) 99 num (ckPitch m i j q) hr m).1 (LA i + 5) := by
        rw [pushM_cell (by omega), pushM_cell (by omega), up_cell _ _ _ (by omega)]
      refine ⟨?_, (h2.rec h1).cell e⟩
      have hp := recM_PR (i := i) (w := wOf m i) (cn := cOf m i) (kd := 99) (lk := num) (pt := ckPitch m i j q) (hr := hr) (m := m)
      generalize pushM i j N (nI (q + 1)) (pushM i j N (nI q - 1) (up (recM i (wOf m i) (cOf m i) 99 num (ckPitch m i j q) hr m) (LK i j + 3) q 0)) = X at e ⊢
      obtain ⟨p1, p2, p3, p4⟩ := hp
      have a1 := (congrFun e 5).trans p1
      have a2 := (congrFun e 4).trans p3
      have w1 : wOf X i = (wOf m i + 1) % 16 := by
        show (X.1 (LA i + 5) 5).toNatClampNeg = _
        rw [a1, nI_clamp (by omega)]
      have w2 : cOf X i = min (cOf m i + 1) 16 := by
        show (X.1 (LA i + 5) 4).toNatClampNeg = _
        rw [a2, nI_clamp (by omega)]
      rw [w1, w2]
      exact ⟨a1, p2, a2, p4⟩
    · exact ⟨h1, h2⟩
theorem lkStep_crk {M : Mem} {i j : Nat} {rest : Bool} : (lkStep i j rest M).1 (LK i j) 5 = M.1 (LK i j) 5 + nI (lkN i j rest M) := by
  have hg := LK_ge i j
  unfold lkStep
  rw [up_cell _ _ _ (by omega), thawM_slot (by decide)]
  unfold lk3 ckEnd
  rw [up_same, (ckM_facts _).2.2.2, lk2_cell (by omega)]
  rfl
theorem XC.step {K : Nat} {M : Mem} {i j : Nat} {rest : Bool} (h : XC K M i) (hL : LW M i) (hj : j < nLk M i) (K' : Nat) (hK : K ≤ K') (hj8 : ∃ c, c + 8 ≤ K' ∧ M.1 (LK i j) 5 = nI c) : (∀ j', j' < nLk M i → ∃ c, c ≤ K' ∧ (lkStep i j rest M).1 (LK i j') 5 = nI c) ∧ PL (lkStep i j rest M) i := by
  have hg := LK_ge i j
  have h8 := lkN_le i j rest M (hL.ln hj).2
  refine ⟨fun j' hj' => ?_, ?_⟩
  · by_cases e : j' = j
    · subst e
      obtain ⟨c, c1, c2⟩ := hj8
      exact ⟨c + lkN i j' rest M, by omega, by rw [lkStep_crk, c2, nI_add]⟩
    · obtain ⟨c, c1, c2⟩ := h.1 j' hj'
      have e1 : LK i j = LA i + 10 + 4 * j := rfl
      have e2 : LK i j' = LA i + 10 + 4 * j' := rfl
      exact ⟨c, by omega, by rw [lkStep_cell (by omega) (by omega) (by omega)]; exact c2⟩
  · have e2 : (lk2 i j rest M).1 (LA i + 5) = M.1 (LA i + 5) := lk2_cell (by omega)
    have hP : PR (lk2 i j rest M) i (wOf (lk2 i j rest M) i) (cOf (lk2 i j rest M) i) := by
      unfold PR wOf cOf
      rw [e2]
      exact hL.2.2.2.1
    refine (ckM_PL (num := nI j) (hr := M.1 (LA i) 3) (N := nLy M i j) (j := j) hP (h.2.cell e2) (nLy M i j)).2.cell ?_
    unfold lkStep
    rw [up_cell _ _ _ (by omega), thawM_cell (by omega)]
    unfold lk3 ckEnd
    rw [up_cell _ _ _ (by omega)]
theorem XC.lks {K : Nat} {M : Mem} {i : Nat} {rest : Bool} (h : XC K M i) (hL : LW M i) : ∀ q, q ≤ nLk M i → (∀ j, j < nLk M i → ∃ c, c ≤ (if j < q then K + 8 else K) ∧ (lksM i rest M q).1 (LK i j) 5 = nI c) ∧ PL (lksM i rest M q) i
  | 0, _ => ⟨fun j hj => by rw [if_neg (by omega)]; exact h.1 j hj, h.2⟩
  | q + 1, hq => by
    obtain ⟨h1, h2⟩ := lks_LW (rest := rest) hL q (by omega)
    obtain ⟨i1, i2⟩ := XC.lks (rest := rest) h hL q (by omega)
    have hX : XC (K + 8) (lksM i rest M q) i := ⟨fun j hj => by
      rw [h2] at hj
      obtain ⟨c, c1, c2⟩ := i1 j hj
      exact ⟨c, by split at c1 <;> omega, c2⟩, i2⟩
    have hcq : ∃ c, c + 8 ≤ K + 8 ∧ (lksM i rest M q).1 (LK i q) 5 = nI c := by
      obtain ⟨c, c1, c2⟩ := i1 q (by omega)
      rw [if_neg (by omega)] at c1
      exact ⟨c, by omega, c2⟩
    obtain ⟨s1, s2⟩ := hX.step (rest := rest) h1 (j := q) (by omega) (K + 8) (by omega) hcq
    refine ⟨fun j hj => ?_, s2⟩
    by_cases e : j < q + 1
    · rw [if_pos e]
      exact s1 j (by omega)
    · rw [if_neg e]
      obtain ⟨c, c1, c2⟩ := i1 j hj
      rw [if_neg (by omega)] at c1
      have hg := LK_ge i q
      have e1 : LK i j = LA i + 10 + 4 * j := rfl
      have e2 : LK i q = LA i + 10 + 4 * q := rfl
      refine ⟨c, c1, ?_⟩
      show (lkStep i q rest (lksM i rest M q)).1 (LK i j) 5 = nI c
      rw [lkStep_cell (by omega) (by omega) (by omega)]
      exact c2
theorem XC.hour {K : Nat} {M : Mem} {i : Nat} (h : XC K M i) (hL : LW M i) : XC (K + 8) (hourM i M) i := by
  obtain ⟨h1, h2⟩ := hour0_LW hL
  have h0 : XC K (hourM0 i M) i := h.keep hL.nl5 (up_slot _ _ _ (by decide)) (fun j hj => by have := LK_ge i j; exact congrFun (up_cell _ _ _ (by omega)) 5) (up_cell _ _ _ (by omega))
  obtain ⟨i1, i2⟩ := h0.lks (rest := restB i (hourM0 i M)) h1 (nLk M i) (by omega)
  have e := (lks_LW (rest := restB i (hourM0 i M)) h1 (nLk M i) (by omega)).2
  refine ⟨fun j hj => ?_, i2⟩
  have hj2 : j < nLk M i := by
    have : nLk (hourM i M) i = nLk (hourM0 i M) i := e
    omega
  obtain ⟨c, c1, c2⟩ := i1 j (by omega)
  rw [if_pos hj2] at c1
  exact ⟨c, c1, c2⟩
theorem XC.hours {K : Nat} {M : Mem} {i : Nat} (h : XC K M i) (hL : LW M i) : ∀ q, XC (K + 8 * q) (hoursM i M q) i
  | 0 => h
  | q + 1 => (show K + 8 * (q + 1) = K + 8 * q + 8 by omega) ▸ (XC.hours h hL q).hour (hours_LW hL q).1
theorem cmdM_XC {K : Nat} {M : Mem} {i : Nat} {n : Nat → Int32} (hX : XC K M i) (hL : LW M i) : (k : Nat) → cmdF M i k n = 45 → XC (K + 400) (cmdM i k n M) i
  | 0, hf => (hX.place (placeF_ok hL (x := n 0) hf).1).mono (by omega)
  | 1, _ => (hX.grow hL.nl5).mono (by omega)
  | 2, _ => (hX.air hL.nl5).mono (by omega)
  | 3, hf => by
    have h48 := (passF_ok (x := n 0) hf).2.1
    exact (hX.hours hL _).mono (by omega)
  | 4, _ => (hX.ins hL.nl5).mono (by omega)
  | 5, _ => (hX.rm hL.nl5).mono (by omega)
  | _ + 6, _ => (hX.ring hL).mono (by omega)
/-! the same of all that the class remembers -/
def XI (K : Nat) (M : Mem) : Prop := XC K M 0 ∧ (∀ q, q < hc M → XC K M (3 + (hw M + 7 - q) % 8)) ∧ (M.1 0 3 = 1 → XC K M 2)
theorem XI.mono {K K' : Nat} {M : Mem} (h : XI K M) (hK : K ≤ K') : XI K' M := ⟨h.1.mono hK, fun q hq => (h.2.1 q hq).mono hK, fun hs => (h.2.2 hs).mono hK⟩
theorem XI.ok {K K' : Nat} {M M2 : Mem} (h : XI K M) (hI : CI M) (hX : XC K' M2 0) (hK : K ≤ K') (hk : ∀ k, (k = 0 ∨ (61 ≤ k ∧ k < 333)) → M2.1 k = (rem M).1 k) : XI K' M2 := by
  have h8 := hI.2.1.2.2.2
  have hw8 := hI.2.1.2.1
  have ehw : hw M2 = (hw M + 1) % 8 := by
    rw [← rem_hw hI]; unfold hw; rw [hk 91 (by omega)]
  have ehc : hc M2 = min (hc M + 1) 8 := by
    rw [← rem_hc hI]; unfold hc; rw [hk 91 (by omega)]
  have hag : ∀ w, w < 8 → Agr (rem M) M2 (3 + w) := fun w hw o ho => hk _ (by have := LA_3 w; omega)
  have hag2 : Agr (rem M) M2 2 := fun o ho => hk _ (by have : LA 2 = 61 := rfl; omega)
  refine ⟨hX, fun q hq => ?_, fun hs => ?_⟩
  · rw [ehc] at hq
    rw [ehw]
    by_cases e : q = 0
    · subst e
      rw [show ((hw M + 1) % 8 + 7 - 0) % 8 = hw M by omega]
      exact (h.1.sm ((rem_top hI).trans ((hag _ hw8).sm (by rw [(rem_top hI).nl]; exact hI.1.nl5)))).mono hK
    · rw [show ((hw M + 1) % 8 + 7 - q) % 8 = (hw M + 7 - (q - 1)) % 8 by omega]
      have ha := rem_old hI (w := (hw M + 7 - (q - 1)) % 8) (by omega) (by omega)
      have h5 := (hI.2.2.1 (q - 1) (by omega)).nl5
      exact ((h.2.1 (q - 1) (by omega)).sm ((ha.sm h5).trans ((hag _ (by omega)).sm (by rw [(ha.sm h5).nl]; exact h5)))).mono hK
  · rw [hk 0 (by omega), show (rem M).1 0 = M.1 0 from remH_cell hI.1.nl5 (by have := LA_3 (hw M); omega) (by omega)] at hs
    have ha := rem_agr hI.1 (i := 2) (by omega)
    rcases hI.2.2.2 with z | ⟨_, hL2⟩
    · rw [z] at hs; exact absurd hs (by decide)
    · have h5 := hL2.nl5
      exact ((h.2.2 hs).sm ((ha.sm h5).trans (hag2.sm (by rw [(ha.sm h5).nl]; exact h5)))).mono hK
theorem XI.agr {K : Nat} {M M' : Mem} (h : XI K M) (hI : CI M) (hk : ∀ k, (k < 31 ∨ (61 ≤ k ∧ k < 333)) → M'.1 k = M.1 k) : XI K M' := by
  have a0 : Agr M M' 0 := fun o ho => hk _ (by rw [LA_0]; omega)
  have a2 : Agr M M' 2 := fun o ho => hk _ (by rw [LA_2]; omega)
  have a3 : ∀ w, w < 8 → Agr M M' (3 + w) := fun w hw o ho => hk _ (by have := LA_3 w; omega)
  have e1 : hw M' = hw M := by unfold hw; rw [hk 91 (by omega)]
  have e2 : hc M' = hc M := by unfold hc; rw [hk 91 (by omega)]
  have h0 : M'.1 0 = M.1 0 := hk 0 (by omega)
  refine ⟨h.1.sm (a0.sm hI.1.nl5), fun q hq => ?_, fun hs => ?_⟩
  · rw [e2] at hq
    rw [e1]
    exact (h.2.1 q hq).sm ((a3 _ (by omega)).sm (hI.2.2.1 q hq).nl5)
  · rw [h0] at hs
    rcases hI.2.2.2 with z | ⟨_, hL2⟩
    · rw [z] at hs; exact absurd hs (by decide)
    · exact (h.2.2 hs).sm (a2.sm hL2.nl5)
theorem XI.undo {K : Nat} {M : Mem} (h : XI K M) (hI : CI M) (h0 : 0 < hc M) : XI K (undoM M) := by
  obtain ⟨e1, e2⟩ := undo_hw hI h0
  have h80 := hI.2.1.2.1
  have hc8 := hI.2.1.2.2.2
  refine ⟨?_, fun q hq => ?_, fun hs => ?_⟩
  · exact (h.2.1 0 h0).sm (undo_sm hI h0)
  · rw [e2] at hq
    rw [e1, show ((hw M + 7) % 8 + 7 - q) % 8 = (hw M + 7 - (q + 1)) % 8 by omega]
    have h3 := LA_3 ((hw M + 7 - (q + 1)) % 8)
    exact (h.2.1 (q + 1) (by omega)).sm ((show Agr M (undoM M) (3 + (hw M + 7 - (q + 1)) % 8) from fun o ho => undo_cell hI h0 (by omega) (by omega)).sm (hI.2.2.1 (q + 1) (by omega)).nl5)
  · rw [undo_cell hI h0 (by omega) (by omega)] at hs
    rcases hI.2.2.2 with z | ⟨_, hL2⟩
    · rw [z] at hs; exact absurd hs (by decide)
    · exact (h.2.2 hs).sm ((show Agr M (undoM M) 2 from fun o ho => undo_cell hI h0 (by rw [LA_2]; omega) (by rw [LA_2]; omega)).sm hL2.nl5)
theorem XI.save {K : Nat} {M : Mem} (h : XI K M) (hI : CI M) : XI K (saveM M) := by
  have h91 : (saveM M).1 91 = M.1 91 := save_cell hI (by omega) (by omega)
  have e1 : hw (saveM M) = hw M := by unfold hw; rw [h91]
  have e2 : hc (saveM M) = hc M := by unfold hc; rw [h91]
  refine ⟨h.1.sm ((save_agr hI).sm hI.1.nl5), fun q hq => ?_, fun _ => h.1.sm (save_sm hI)⟩
  rw [e2] at hq
  rw [e1]
  exact (h.2.1 q hq).sm ((save_old hI _).sm (hI.2.2.1 q hq).nl5)
theorem XI.rest {K : Nat} {M : Mem} (h : XI K M) (hI : CI M) (hs : M.1 0 3 = 1) : XI K (restM M) := by
  have hL2 : LW M 2 := by
    rcases hI.2.2.2 with z | ⟨_, hL2⟩
    · rw [z] at hs; exact absurd hs (by decide)
    · exact hL2
  have e2 : hc (restM M) = 0 := by unfold hc restM; rw [up_same]; rfl
  refine ⟨(h.2.2 hs).sm (rest_sm hL2), fun q hq => by rw [e2] at hq; omega, fun _ => ?_⟩
  exact (h.2.2 hs).sm ((show Agr M (restM M) 2 from fun o ho => rest_cell hL2 (by rw [LA_2]; omega) (by rw [LA_2]; omega)).sm hL2.nl5)
