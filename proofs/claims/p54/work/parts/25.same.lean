/-! two landscapes with the same contents -/
abbrev Sm (m m' : Mem) (i i' : Nat) : Prop := (∀ f, 1 ≤ f → f ≤ 5 → m'.1 (LA i') f = m.1 (LA i) f) ∧ (m'.1 (LA i' + 2) 2 = m.1 (LA i + 2) 2) ∧ (∀ o, 3 ≤ o → o ≤ 4 → ∀ y, y < 6 → m'.1 (LA i' + o) y = m.1 (LA i + o) y) ∧ (∀ f, 4 ≤ f → f ≤ 5 → m'.1 (LA i' + 5) f = m.1 (LA i + 5) f) ∧ (∀ o, 6 ≤ o → o ≤ 9 → ∀ y, y < 16 → m'.1 (LA i' + o) y = m.1 (LA i + o) y) ∧ (∀ j, j < nLk m i → ∀ f, 3 ≤ f → f ≤ 5 → m'.1 (LK i' j) f = m.1 (LK i j) f) ∧ (∀ j, j < nLk m i → ∀ o, 1 ≤ o → o ≤ 3 → ∀ y, y < 8 → m'.1 (LK i' j + o) y = m.1 (LK i j + o) y)
theorem Sm.f {m m' : Mem} {i i' : Nat} (h : Sm m m' i i') : ∀ f, 1 ≤ f → f ≤ 5 → m'.1 (LA i') f = m.1 (LA i) f := h.1
theorem Sm.wn {m m' : Mem} {i i' : Nat} (h : Sm m m' i i') : m'.1 (LA i' + 2) 2 = m.1 (LA i + 2) 2 := h.2.1
theorem Sm.w {m m' : Mem} {i i' : Nat} (h : Sm m m' i i') : ∀ o, 3 ≤ o → o ≤ 4 → ∀ y, y < 6 → m'.1 (LA i' + o) y = m.1 (LA i + o) y := h.2.2.1
theorem Sm.pn {m m' : Mem} {i i' : Nat} (h : Sm m m' i i') : ∀ f, 4 ≤ f → f ≤ 5 → m'.1 (LA i' + 5) f = m.1 (LA i + 5) f := h.2.2.2.1
theorem Sm.p {m m' : Mem} {i i' : Nat} (h : Sm m m' i i') : ∀ o, 6 ≤ o → o ≤ 9 → ∀ y, y < 16 → m'.1 (LA i' + o) y = m.1 (LA i + o) y := h.2.2.2.2.1
theorem Sm.k {m m' : Mem} {i i' : Nat} (h : Sm m m' i i') : ∀ j, j < nLk m i → ∀ f, 3 ≤ f → f ≤ 5 → m'.1 (LK i' j) f = m.1 (LK i j) f := h.2.2.2.2.2.1
theorem Sm.r {m m' : Mem} {i i' : Nat} (h : Sm m m' i i') : ∀ j, j < nLk m i → ∀ o, 1 ≤ o → o ≤ 3 → ∀ y, y < 8 → m'.1 (LK i' j + o) y = m.1 (LK i j + o) y := h.2.2.2.2.2.2
theorem Sm.nl {m m' : Mem} {i i' : Nat} (h : Sm m m' i i') : nLk m' i' = nLk m i := by unfold nLk; rw [h.f 1 (by omega) (by omega)]
theorem Sm.nw {m m' : Mem} {i i' : Nat} (h : Sm m m' i i') : nWn m' i' = nWn m i := by unfold nWn; rw [h.wn]
theorem Sm.pw {m m' : Mem} {i i' : Nat} (h : Sm m m' i i') : wOf m' i' = wOf m i := by unfold wOf; rw [h.pn 5 (by omega) (by omega)]
theorem Sm.pc {m m' : Mem} {i i' : Nat} (h : Sm m m' i i') : cOf m' i' = cOf m i := by unfold cOf; rw [h.pn 4 (by omega) (by omega)]
theorem Sm.ny {m m' : Mem} {i i' j : Nat} (h : Sm m m' i i') (hj : j < nLk m i) : nLy m' i' j = nLy m i j := by unfold nLy; rw [h.k j hj 3 (by omega) (by omega)]
theorem Sm.lw {m m' : Mem} {i i' : Nat} (h : Sm m m' i i') (hL : LW m i) : LW m' i' := by
  refine (LW.mk' (n := nLk m i) ?_ hL.nl5 (fun j hj => ⟨nLy m i j, ?_, (hL.ln hj).2⟩) ⟨nWn m i, ?_, hL.wr.2⟩ ⟨wOf m i, cOf m i, ?_, hL.pr.2.1, ?_, hL.pr.2.2.2⟩ (fun y hy => ?_)).1
  · rw [h.f 1 (by omega) (by omega)]; exact hL.nl
  · rw [h.k j hj 3 (by omega) (by omega)]; exact (hL.ln hj).1
  · rw [h.wn]; exact hL.wr.1
  · rw [h.pn 5 (by omega) (by omega)]; exact hL.pr.1
  · rw [h.pn 4 (by omega) (by omega)]; exact hL.pr.2.2.1
  · rw [h.p 6 (by omega) (by omega) y hy]; exact hL.kf y hy
theorem Sm.trans {m m' m2 : Mem} {i i' i2 : Nat} (h : Sm m m' i i') (h2 : Sm m' m2 i' i2) : Sm m m2 i i2 :=
  ⟨fun f a b => (h2.f f a b).trans (h.f f a b), h2.wn.trans h.wn, fun o a b y c => (h2.w o a b y c).trans (h.w o a b y c), fun f a b => (h2.pn f a b).trans (h.pn f a b), fun o a b y c => (h2.p o a b y c).trans (h.p o a b y c), fun j hj f a b => (h2.k j (by rw [h.nl]; exact hj) f a b).trans (h.k j hj f a b), fun j hj o a b y c => (h2.r j (by rw [h.nl]; exact hj) o a b y c).trans (h.r j hj o a b y c)⟩
theorem Agr.sm {m m' : Mem} {i : Nat} (h : Agr m m' i) (h5 : nLk m i ≤ 5) : Sm m m' i i := by
  have hk : ∀ j, j < nLk m i → ∀ o, o < 4 → m'.1 (LK i j + o) = m.1 (LK i j + o) := fun j hj o ho => h.lk (by omega) ho
  refine ⟨fun f _ _ => by rw [show LA i = LA i + 0 from rfl, h 0 (by omega)], by rw [h 2 (by omega)], fun o a b y _ => by rw [h o (by omega)], fun f _ _ => by rw [h 5 (by omega)], fun o a b y _ => by rw [h o (by omega)], fun j hj f _ _ => ?_, fun j hj o _ b y _ => by rw [hk j hj o (by omega)]⟩
  have := hk j hj 0 (by omega)
  rw [Nat.add_zero] at this
  rw [this]
theorem cpy0 {f f0 : Nat → Int32} {N y : Nat} (h : y < N) : va_cpy f f0 0 0 N y = f y := by
  unfold va_cpy
  rw [if_pos ⟨Nat.zero_le _, by omega⟩, Nat.zero_add, Nat.sub_zero]
theorem cpLake_row {i j i2 j2 : Nat} {m : Mem} {o : Nat} (ho : 1 ≤ o ∧ o ≤ 3) (hd : LK i j + 4 ≤ LK i2 j2 ∨ LK i2 j2 + 4 ≤ LK i j) {y : Nat} (hy : y < 8) : (cpLake i j i2 j2 m).1 (LK i j + o) y = m.1 (LK i2 j2 + o) y := by
  unfold cpLake
  dsimp only
  rw [up_cell _ _ _ (by omega), up_cell _ _ _ (by omega), up_cell _ _ _ (by omega)]
  obtain rfl | rfl | rfl : o = 1 ∨ o = 2 ∨ o = 3 := by omega
  · rw [setRow_cell _ _ (by omega), setRow_cell _ _ (by omega), setRow_same, cpy0 hy]
  · rw [setRow_cell _ _ (by omega), setRow_same, cpy0 hy, setRow_cell _ _ (by omega)]
  · rw [setRow_same, cpy0 hy, setRow_cell _ _ (by omega), setRow_cell _ _ (by omega)]
theorem cpLake_f {i j i2 j2 : Nat} {m : Mem} {f : Nat} (hf : 3 ≤ f ∧ f ≤ 5) (hd : LK i j + 4 ≤ LK i2 j2 ∨ LK i2 j2 + 4 ≤ LK i j) : (cpLake i j i2 j2 m).1 (LK i j) f = m.1 (LK i2 j2) f := by
  unfold cpLake
  dsimp only
  obtain rfl | rfl | rfl : f = 3 ∨ f = 4 ∨ f = 5 := by omega
  · rw [up_slot _ _ _ (by omega), up_slot _ _ _ (by omega), up_same, setRow_cell _ _ (by omega), setRow_cell _ _ (by omega), setRow_cell _ _ (by omega)]
  · rw [up_slot _ _ _ (by omega), up_same, up_cell _ _ _ (by omega), setRow_cell _ _ (by omega), setRow_cell _ _ (by omega), setRow_cell _ _ (by omega)]
  · rw [up_same, up_cell _ _ _ (by omega), up_cell _ _ _ (by omega), setRow_cell _ _ (by omega), setRow_cell _ _ (by omega), setRow_cell _ _ (by omega)]
theorem LK_LA {i i2 j j2 : Nat} (h : i ≠ i2) (hj : j < 5) (hj2 : j2 < 5) : LK i j + 4 ≤ LK i2 j2 ∨ LK i2 j2 + 4 ≤ LK i j := by
  have h1 := LA_apart h
  have h2 := LK_in (i := i) hj
  have h3 := LK_in (i := i2) hj2
  omega
theorem cpLks_src {i i2 : Nat} {m : Mem} (hne : i ≠ i2) {j o : Nat} (hj : j < 5) (ho : o < 4) {q : Nat} (hq : q ≤ 5) : (cpLks i i2 m q).1 (LK i2 j + o) = m.1 (LK i2 j + o) := by
  have h1 := LA_apart hne
  have h3 := LK_in (i := i2) hj
  exact cpLks_cell (by omega) q hq
theorem cpLks_row {i i2 : Nat} {m : Mem} (hne : i ≠ i2) {o : Nat} (ho : 1 ≤ o ∧ o ≤ 3) {y : Nat} (hy : y < 8) : ∀ q, q ≤ 5 → ∀ j, j < q → (cpLks i i2 m q).1 (LK i j + o) y = m.1 (LK i2 j + o) y
  | 0, _, j, hj => absurd hj (Nat.not_lt_zero _)
  | q + 1, hq, j, hj => by
    show (cpLake i q i2 q (cpLks i i2 m q)).1 (LK i j + o) y = _
    by_cases e : j = q
    · subst e
      rw [cpLake_row ho (LK_LA hne (by omega) (by omega)) hy, cpLks_src hne (by omega) (by omega) (by omega)]
    · have := LK_apart (i := i) e
      rw [cpLake_cell (by omega)]
      exact cpLks_row hne ho hy q (by omega) j (by omega)
theorem cpLks_f {i i2 : Nat} {m : Mem} (hne : i ≠ i2) {f : Nat} (hf : 3 ≤ f ∧ f ≤ 5) : ∀ q, q ≤ 5 → ∀ j, j < q → (cpLks i i2 m q).1 (LK i j) f = m.1 (LK i2 j) f
  | 0, _, j, hj => absurd hj (Nat.not_lt_zero _)
  | q + 1, hq, j, hj => by
    show (cpLake i q i2 q (cpLks i i2 m q)).1 (LK i j) f = _
    by_cases e : j = q
    · subst e
      have := cpLks_src (m := m) hne (j := j) (o := 0) (by omega) (by omega) (q := j) (by omega)
      rw [Nat.add_zero] at this
      rw [cpLake_f hf (LK_LA hne (by omega) (by omega)), this]
    · have := LK_apart (i := i) e
      rw [cpLake_cell (by omega)]
      exact cpLks_f hne hf q (by omega) j (by omega)
theorem cpWin_row {i i2 : Nat} {m : Mem} (hne : i ≠ i2) {o : Nat} (ho : 3 ≤ o ∧ o ≤ 4) {y : Nat} (hy : y < 6) : (cpWin i i2 m).1 (LA i + o) y = m.1 (LA i2 + o) y := by
  have h1 := LA_apart hne
  unfold cpWin
  dsimp only
  rw [up_cell _ _ _ (by omega)]
  obtain rfl | rfl : o = 3 ∨ o = 4 := by omega
  · rw [setRow_cell _ _ (by omega), setRow_same, cpy0 hy]
  · rw [setRow_same, cpy0 hy, setRow_cell _ _ (by omega)]
theorem cpWin_n {i i2 : Nat} {m : Mem} (hne : i ≠ i2) : (cpWin i i2 m).1 (LA i + 2) 2 = m.1 (LA i2 + 2) 2 := by
  have h1 := LA_apart hne
  unfold cpWin
  dsimp only
  rw [up_same, setRow_cell _ _ (by omega), setRow_cell _ _ (by omega)]
theorem cpPeal_row {i i2 : Nat} {m : Mem} (hne : i ≠ i2) {o : Nat} (ho : 6 ≤ o ∧ o ≤ 9) {y : Nat} (hy : y < 16) : (cpPeal i i2 m).1 (LA i + o) y = m.1 (LA i2 + o) y := by
  have h1 := LA_apart hne
  unfold cpPeal
  dsimp only
  rw [up_cell _ _ _ (by omega), up_cell _ _ _ (by omega)]
  obtain rfl | rfl | rfl | rfl : o = 6 ∨ o = 7 ∨ o = 8 ∨ o = 9 := by omega
  · rw [setRow_cell _ _ (by omega), setRow_cell _ _ (by omega), setRow_cell _ _ (by omega), setRow_same, cpy0 hy]
  · rw [setRow_cell _ _ (by omega), setRow_cell _ _ (by omega), setRow_same, cpy0 hy, setRow_cell _ _ (by omega)]
  · rw [setRow_cell _ _ (by omega), setRow_same, cpy0 hy, setRow_cell _ _ (by omega), setRow_cell _ _ (by omega)]
  · rw [setRow_same, cpy0 hy, setRow_cell _ _ (by omega), setRow_cell _ _ (by omega), setRow_cell _ _ (by omega)]
theorem cpPeal_n {i i2 : Nat} {m : Mem} (hne : i ≠ i2) {f : Nat} (hf : 4 ≤ f ∧ f ≤ 5) : (cpPeal i i2 m).1 (LA i + 5) f = m.1 (LA i2 + 5) f := by
  have h1 := LA_apart hne
  unfold cpPeal
  dsimp only
  obtain rfl | rfl : f = 4 ∨ f = 5 := by omega
  · rw [up_slot _ _ _ (by omega), up_same, setRow_cell _ _ (by omega), setRow_cell _ _ (by omega), setRow_cell _ _ (by omega), setRow_cell _ _ (by omega)]
  · rw [up_same, up_cell _ _ _ (by omega), setRow_cell _ _ (by omega), setRow_cell _ _ (by omega), setRow_cell _ _ (by omega), setRow_cell _ _ (by omega)]
/-- the five plain fields that a copy writes -/
def cpFld (i i2 : Nat) (m1 : Mem) : Mem :=
  let m2 := up m1 (LA i) 1 (m1.1 (LA i2) 1)
  let m3 := up m2 (LA i) 2 (m2.1 (LA i2) 2)
  let m4 := up m3 (LA i) 3 (m3.1 (LA i2) 3)
  let m5 := up m4 (LA i) 4 (m4.1 (LA i2) 4)
  up m5 (LA i) 5 (m5.1 (LA i2) 5)
theorem cpFld_cell {i i2 : Nat} {m : Mem} {k : Nat} (h : k ≠ LA i) : (cpFld i i2 m).1 k = m.1 k := by
  unfold cpFld
  dsimp only
  rw [up_cell _ _ _ h, up_cell _ _ _ h, up_cell _ _ _ h, up_cell _ _ _ h, up_cell _ _ _ h]
theorem cpFld_f {i i2 : Nat} {m : Mem} (hne : i ≠ i2) {f : Nat} (hf : 1 ≤ f ∧ f ≤ 5) : (cpFld i i2 m).1 (LA i) f = m.1 (LA i2) f := by
  have h1 : LA i2 ≠ LA i := by have := LA_apart hne; omega
  unfold cpFld
  dsimp only
  obtain rfl | rfl | rfl | rfl | rfl : f = 1 ∨ f = 2 ∨ f = 3 ∨ f = 4 ∨ f = 5 := by omega
  · rw [up_slot _ _ _ (by omega), up_slot _ _ _ (by omega), up_slot _ _ _ (by omega), up_slot _ _ _ (by omega), up_same]
  · rw [up_slot _ _ _ (by omega), up_slot _ _ _ (by omega), up_slot _ _ _ (by omega), up_same, up_cell _ _ _ h1]
  · rw [up_slot _ _ _ (by omega), up_slot _ _ _ (by omega), up_same, up_cell _ _ _ h1, up_cell _ _ _ h1]
  · rw [up_slot _ _ _ (by omega), up_same, up_cell _ _ _ h1, up_cell _ _ _ h1, up_cell _ _ _ h1]
  · rw [up_same, up_cell _ _ _ h1, up_cell _ _ _ h1, up_cell _ _ _ h1, up_cell _ _ _ h1]
theorem cpLand_eq (i i2 : Nat) (m : Mem) : cpLand i i2 m = cpPeal i i2 (cpWin i i2 (cpFld i i2 (cpLks i i2 m (nLk m i2)))) := rfl
theorem cpLand_sm {i i2 : Nat} {m : Mem} (hne : i ≠ i2) (h5 : nLk m i2 ≤ 5) : Sm m (cpLand i i2 m) i2 i := by
  have ha := LA_apart hne
  have hs : ∀ k, (k < LA i + 10 ∨ LA i + 30 ≤ k) → (cpLks i i2 m (nLk m i2)).1 k = m.1 k := fun k hk => cpLks_cell hk _ h5
  rw [cpLand_eq]
  refine ⟨fun f a b => ?_, ?_, fun o a b y hy => ?_, fun f a b => ?_, fun o a b y hy => ?_, fun j hj f a b => ?_, fun j hj o a b y hy => ?_⟩
  · rw [cpPeal_cell (by omega), cpWin_cell (by omega), cpFld_f hne ⟨a, b⟩, hs _ (by omega)]
  · rw [cpPeal_cell (by omega), cpWin_n hne, cpFld_cell (by omega), hs _ (by omega)]
  · rw [cpPeal_cell (by omega), cpWin_row hne ⟨a, b⟩ hy, cpFld_cell (by omega), hs _ (by omega)]
  · rw [cpPeal_n hne ⟨a, b⟩, cpWin_cell (by omega), cpFld_cell (by omega), hs _ (by omega)]
  · rw [cpPeal_row hne ⟨a, b⟩ hy, cpWin_cell (by omega), cpFld_cell (by omega), hs _ (by omega)]
  · have hk := LK_in (i := i) (j := j) (by omega)
    rw [cpPeal_cell (by omega), cpWin_cell (by omega), cpFld_cell (by omega)]
    exact cpLks_f hne ⟨a, b⟩ _ h5 j hj
  · have hk := LK_in (i := i) (j := j) (by omega)
    rw [cpPeal_cell (by omega), cpWin_cell (by omega), cpFld_cell (by omega)]
    exact cpLks_row hne ⟨a, b⟩ hy _ h5 j hj
theorem cpLand_LW {i i2 : Nat} {m : Mem} (hne : i ≠ i2) (hL : LW m i2) : LW (cpLand i i2 m) i ∧ nLk (cpLand i i2 m) i = nLk m i2 := ⟨(cpLand_sm hne hL.nl5).lw hL, (cpLand_sm hne hL.nl5).nl⟩
theorem nI_le0 {k : Nat} (hk : k < 2147483648) : nI k ≤ 0 ↔ k = 0 := by
  refine ⟨fun h => ?_, fun h => by subst h; decide⟩
  have := (nI_leI (a := k) (b := 0) hk (by decide)).mp h
  omega
theorem lkN_le (i j : Nat) (rest : Bool) (m : Mem) (h8 : nLy m i j ≤ 8) : lkN i j rest m ≤ 8 := by
  unfold lkN
  exact Nat.le_trans (ckN_le _ _ _ _ _ _ _) h8
theorem lksN_le {i : Nat} {rest : Bool} {m : Mem} (hL : LW m i) : ∀ q, q ≤ nLk m i → lksN i rest m q ≤ 8 * q
  | 0, _ => Nat.le_refl _
  | q + 1, hq => by
    have h1 := lksN_le (rest := rest) hL q (by omega)
    obtain ⟨h2, h3⟩ := lks_LW (rest := rest) hL q (by omega)
    have h4 := lkN_le i q rest (lksM i rest m q) (h2.ln (by rw [h3]; omega)).2
    show lksN i rest m q + lkN i q rest (lksM i rest m q) ≤ _
    omega
theorem hourN_le {i : Nat} {m : Mem} (hL : LW m i) : hourN i m ≤ 40 := by
  obtain ⟨h1, h2⟩ := hour0_LW hL
  have h3 := lksN_le (rest := restB i (hourM0 i m)) h1 (nLk m i) (by omega)
  have h5 := hL.nl5
  unfold hourN
  omega
