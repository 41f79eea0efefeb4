/-! the row beside another landscape of the same contents -/
theorem RM.row {R R' : Nat → Int32} {M : Mem} {i : Nat} (h : RM R M i) (he : ∀ k, k < 218 → R' k = R k) : RM R' M i := by
  obtain ⟨hM, hL, hn, hf, hl, hw, hp⟩ := h
  have h5 := hL.nl5
  have h6 := hL.wr.2
  have f1 : mL R' = mL R := by unfold mL; rw [he _ (by omega)]
  have f2 : mN R' = mN R := by unfold mN; rw [he _ (by omega)]
  have f3 : mP R' = mP R := by unfold mP; rw [he _ (by omega)]
  have f4 : ∀ j', j' < 5 → mY R' j' = mY R j' := fun j' e => by unfold mY; rw [he _ (by omega)]
  refine ⟨⟨by rw [f1, he _ (by omega)]; exact hM.1, fun j' hj' => by rw [f4 j' hj', he _ (by omega)]; exact hM.2.1 j' hj', by rw [f2, he _ (by omega)]; exact hM.2.2.1, by rw [f3, he _ (by omega)]; exact hM.2.2.2⟩, hL, by rw [f1]; exact hn, by rw [he _ (by omega), he _ (by omega), he _ (by omega), he _ (by omega)]; exact hf, fun j' hj' => ?_, ?_, ?_⟩
  · obtain ⟨g1, g2, g3⟩ := hl j' hj'
    have h8' := (hL.ln hj').2
    rw [f4 j' (by omega)]
    refine ⟨g1, fun c' hc' => ?_, fun y' hy' c' a b => ?_⟩
    · rw [he _ (by omega)]; exact g2 c' hc'
    · rw [he _ (by omega)]; exact g3 y' hy' c' a b
  · rw [f2]
    exact ⟨hw.1, fun w hw' c' hc' => by rw [he _ (by omega)]; exact hw.2 w hw' c' hc'⟩
  · rw [f3]
    have h16 := hM.2.2.2.2
    exact ⟨hp.1, fun q hq' c' hc' => by rw [he _ (by omega)]; exact hp.2 q hq' c' hc'⟩
theorem RM.sm {R : Nat → Int32} {M M' : Mem} {i i' : Nat} (h : RM R M i) (hs : Sm M M' i i') : RM R M' i' := by
  obtain ⟨hM, hL, hn, hf, hl, hw, hp⟩ := h
  have h5 := hL.nl5
  have h6 := hL.wr.2
  refine ⟨hM, hs.lw hL, by rw [hs.nl]; exact hn, by rw [hs.f 3 (by omega) (by omega), hs.f 2 (by omega) (by omega), hs.f 4 (by omega) (by omega), hs.f 5 (by omega) (by omega)]; exact hf, fun j' hj' => ?_, ?_, ?_⟩
  · rw [hs.nl] at hj'
    obtain ⟨g1, g2, g3⟩ := hl j' hj'
    have h8' := (hL.ln hj').2
    rw [hs.ny hj']
    refine ⟨g1, fun c' hc' => ?_, fun y' hy' c' a b => ?_⟩
    · rw [hs.k j' hj' (4 + c') (by omega) (by omega)]; exact g2 c' hc'
    · rw [hs.r j' hj' c' a b y' (by omega)]; exact g3 y' hy' c' a b
  · rw [hs.nw]
    refine ⟨hw.1, fun w hw' c' hc' => ?_⟩
    have := hs.w (3 + c') (by omega) (by omega) w (by omega)
    rw [show LA i' + 3 + c' = LA i' + (3 + c') by omega, this, show LA i + (3 + c') = LA i + 3 + c' by omega]
    exact hw.2 w hw' c' hc'
  · rw [hs.pc]
    have h16 := hM.2.2.2.2
    refine ⟨hp.1, fun q hq' c' hc' => ?_⟩
    unfold psl
    rw [hs.pw]
    have := hs.p (6 + c') (by omega) (by omega) ((wOf M i + 15 - q) % 16) (by omega)
    rw [show LA i' + 6 + c' = LA i' + (6 + c') by omega, this, show LA i + (6 + c') = LA i + 6 + c' by omega]
    exact hp.2 q hq' c' hc'
/-- what a landscape's values keep besides -/
def iceOk (M : Mem) (i : Nat) : Prop := ∀ j, j < nLk M i → 20 ≤ M.1 (LK i j) 4 ∧ M.1 (LK i j) 4 ≤ 400 ∧ 2 * iceV M i j ≤ M.1 (LK i j) 4
def XL (M : Mem) (i : Nat) : Prop := VL M i ∧ WS (M.1 (LA i + 3)) (M.1 (LA i + 4)) (nWn M i) ∧ M.1 (LA i) 4 - M.1 (LA i) 5 = l_sum (iceV M i) (nLk M i) ∧ iceOk M i ∧ ∀ y, y < 16 → 0 ≤ M.1 (LA i + 8) y ∧ M.1 (LA i + 8) y ≤ 140
theorem Sm.ice {M M' : Mem} {i i' j : Nat} (hs : Sm M M' i i') (hj : j < nLk M i) (h8 : nLy M i j ≤ 8) : iceV M' i' j = iceV M i j := by
  unfold iceV
  rw [hs.ny hj]
  exact sum_eq _ (fun y hy => hs.r j hj 1 (by omega) (by omega) y (by omega))
theorem XL.sm {M M' : Mem} {i i' : Nat} (h : XL M i) (hL : LW M i) (hs : Sm M M' i i') : XL M' i' := by
  obtain ⟨hV, hW, hI, hO, hP⟩ := h
  have h6 := hL.wr.2
  have hice : ∀ j, j < nLk M i → iceV M' i' j = iceV M i j := fun j hj => hs.ice hj (hL.ln hj).2
  refine ⟨⟨fun j hj => ?_, ?_⟩, ?_, ?_, fun j hj => ?_, fun y hy => ?_⟩
  · rw [hs.nl] at hj
    have h8 := (hL.ln hj).2
    rw [hs.ny hj]
    intro y hy
    rw [hs.r j hj 1 (by omega) (by omega) y (by omega), hs.r j hj 2 (by omega) (by omega) y (by omega)]
    exact hV.1 j hj y hy
  · rw [hs.f 2 (by omega) (by omega)]; exact hV.2
  · rw [hs.nw]
    refine ⟨fun w hw => ?_, fun a b hab hb => ?_⟩
    · rw [hs.w 3 (by omega) (by omega) w (by omega), hs.w 4 (by omega) (by omega) w (by omega)]
      exact hW.1 w hw
    · rw [hs.w 3 (by omega) (by omega) a (by omega), hs.w 3 (by omega) (by omega) b (by omega)]
      exact hW.2 a b hab hb
  · rw [hs.f 4 (by omega) (by omega), hs.f 5 (by omega) (by omega), hs.nl, hI]
    exact (sum_eq _ hice).symm
  · rw [hs.nl] at hj
    rw [hs.k j hj 4 (by omega) (by omega), hice j hj]
    exact hO j hj
  · rw [hs.p 8 (by omega) (by omega) y hy]
    exact hP y hy
theorem WS_ins {F L : Nat → Int32} {n p : Nat} {x z : Int32} (h : WS F L n) (hxz : x ≤ z) (hp : p = insPos F x n) (hc : meetB F L x z n = false) : WS (insRow F n p x) (insRow L n p z) (n + 1) := by
  have hpn : p ≤ n := by rw [hp]; exact insPos_le _ _ _
  have hlo : ∀ m, m ≤ n → ∀ w, w < m → w < insPos F x m → F w ≤ x := by
    intro m
    induction m with
    | zero => intro _ w hw; omega
    | succ m ih =>
      intro hm w hw hi
      by_cases e : x < F m
      · rw [show insPos F x (m + 1) = insPos F x m from if_pos e] at hi
        have := insPos_le F x m
        exact ih (by omega) w (by omega) hi
      · by_cases ew : w = m
        · rw [ew]; exact Int32.not_lt.mp e
        · exact Int32.le_trans (Int32.le_of_lt (h.2 w m (by omega) (by omega))) (Int32.not_lt.mp e)
  have hhi : ∀ m, m ≤ n → ∀ w, insPos F x m ≤ w → w < m → x < F w := by
    intro m
    induction m with
    | zero => intro _ w _ hw; omega
    | succ m ih =>
      intro hm w hi hw
      by_cases e : x < F m
      · rw [show insPos F x (m + 1) = insPos F x m from if_pos e] at hi
        by_cases ew : w = m
        · rw [ew]; exact e
        · exact ih (by omega) w hi (by omega)
      · rw [show insPos F x (m + 1) = m + 1 from if_neg e] at hi
        omega
  have hlt : ∀ w, w < p → F w < x := by
    intro w hw
    have h1 := hlo n (Nat.le_refl n) w (by omega) (by rw [← hp]; exact hw)
    refine Int32.not_le.mp (fun z2 => ?_)
    have he := Int32.le_antisymm h1 z2
    have := meetB_stay (F := F) (L := L) (a := x) (b := z) (q := w) (by rw [← he]; exact h.1 w (by omega)) (by rw [he]; exact hxz) n (by omega)
    rw [hc] at this
    exact absurd this (by decide)
  have hgt : ∀ w, p ≤ w → w < n → x < F w := fun w a b => hhi n (Nat.le_refl n) w (by rw [← hp]; exact a) b
  have r1 : ∀ (f : Nat → Int32) (v : Int32) w, w < p → insRow f n p v w = f w := fun f v w hw => by
    unfold insRow shR
    rw [if_neg (by omega), if_neg (by omega)]
  have r2 : ∀ (f : Nat → Int32) (v : Int32), insRow f n p v p = v := fun f v => if_pos rfl
  have r3 : ∀ (f : Nat → Int32) (v : Int32) w, p < w → w ≤ n → insRow f n p v w = f (w - 1) := fun f v w a b => by
    unfold insRow shR
    rw [if_neg (by omega), if_pos ⟨a, b⟩]
  refine ⟨fun w hw => ?_, fun a b hab hb => ?_⟩
  · rcases Nat.lt_trichotomy w p with e | e | e
    · rw [r1 _ _ _ e, r1 _ _ _ e]; exact h.1 w (by omega)
    · rw [e, r2, r2]; exact hxz
    · rw [r3 _ _ _ e (by omega), r3 _ _ _ e (by omega)]; exact h.1 (w - 1) (by omega)
  · rcases Nat.lt_trichotomy a p with e | e | e
    · rw [r1 _ _ _ e]
      rcases Nat.lt_trichotomy b p with e2 | e2 | e2
      · rw [r1 _ _ _ e2]; exact h.2 a b hab (by omega)
      · rw [e2, r2]; exact hlt a e
      · rw [r3 _ _ _ e2 (by omega)]
        by_cases e3 : b - 1 = a
        · omega
        · exact h.2 a (b - 1) (by omega) (by omega)
    · rw [e, r2, r3 _ _ _ (by omega) (by omega)]
      exact hgt (b - 1) (by omega) (by omega)
    · rw [r3 _ _ _ e (by omega), r3 _ _ _ (by omega) (by omega)]
      exact h.2 (a - 1) (b - 1) (by omega) (by omega)
theorem WS_rm {F L : Nat → Int32} {n a : Nat} (h : WS F L n) (ha : a < n) : WS (rmRow F a (n - 1)) (rmRow L a (n - 1)) (n - 1) := by
  have r1 : ∀ (f : Nat → Int32) w, w < a → rmRow f a (n - 1) w = f w := fun f w hw => by unfold rmRow; rw [if_neg (by omega)]
  have r2 : ∀ (f : Nat → Int32) w, a ≤ w → w < n - 1 → rmRow f a (n - 1) w = f (w + 1) := fun f w h1 h2 => by unfold rmRow; rw [if_pos ⟨h1, h2⟩]
  refine ⟨fun w hw => ?_, fun b c hbc hc => ?_⟩
  · rcases Nat.lt_or_ge w a with e | e
    · rw [r1 _ _ e, r1 _ _ e]; exact h.1 w (by omega)
    · rw [r2 _ _ e hw, r2 _ _ e hw]; exact h.1 (w + 1) (by omega)
  · rcases Nat.lt_or_ge b a with e | e
    · rw [r1 _ _ e]
      rcases Nat.lt_or_ge c a with e2 | e2
      · rw [r1 _ _ e2]; exact h.2 b c hbc (by omega)
      · rw [r2 _ _ e2 hc]; exact h.2 b (c + 1) (by omega) (by omega)
    · rw [r2 _ _ e (by omega), r2 _ _ (by omega) hc]
      exact h.2 (b + 1) (c + 1) (by omega) (by omega)
