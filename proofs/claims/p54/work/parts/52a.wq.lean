/-! no two windows meet: each ends before the next begins -/
def WQf (F L : Nat → Int32) (n : Nat) : Prop := ∀ a b, a < b → b < n → L a < F b
def WQ (M : Mem) (i : Nat) : Prop := WQf (M.1 (LA i + 3)) (M.1 (LA i + 4)) (nWn M i)
theorem meet_sep {F L : Nat → Int32} {x z : Int32} : ∀ n, meetB F L x z n = false → ∀ w, w < n → L w < x ∨ z < F w
  | 0, _, w, hw => absurd hw (Nat.not_lt_zero w)
  | n + 1, h, w, hw => by
    have h2 : (meetB F L x z n || (decide (x ≤ L n) && decide (F n ≤ z))) = false := h
    rw [Bool.or_eq_false_iff] at h2
    by_cases e : w = n
    · subst e
      have h3 := h2.2
      rw [Bool.and_eq_false_iff] at h3
      rcases h3 with h3 | h3
      · exact Or.inl (Int32.not_le.mp (of_decide_eq_false h3))
      · exact Or.inr (Int32.not_le.mp (of_decide_eq_false h3))
    · exact meet_sep n h2.1 w (by omega)
theorem WQ_ins {F L : Nat → Int32} {n p : Nat} {x z : Int32} (h : WS F L n) (hq : WQf F L n) (hxz : x ≤ z) (hp : p = insPos F x n) (hc : meetB F L x z n = false) : WQf (insRow F n p x) (insRow L n p z) (n + 1) := by
  have hpn : p ≤ n := by rw [hp]; exact insPos_le _ _ _
  have hW := WS_ins h hxz hp hc
  have r1 : ∀ (f : Nat → Int32) (v : Int32) w, w < p → insRow f n p v w = f w := fun f v w hw => by
    unfold insRow shR
    rw [if_neg (by omega), if_neg (by omega)]
  have r2 : ∀ (f : Nat → Int32) (v : Int32), insRow f n p v p = v := fun f v => if_pos rfl
  have r3 : ∀ (f : Nat → Int32) (v : Int32) w, p < w → w ≤ n → insRow f n p v w = f (w - 1) := fun f v w a b => by
    unfold insRow shR
    rw [if_neg (by omega), if_pos ⟨a, b⟩]
  have hlt : ∀ w, w < p → F w < x := fun w hw => by
    have := hW.2 w p hw (by omega)
    rw [r1 _ _ _ hw, r2] at this
    exact this
  have hgt : ∀ w, p ≤ w → w < n → x < F w := fun w a b => by
    have := hW.2 p (w + 1) (by omega) (by omega)
    rw [r2, r3 _ _ _ (by omega) (by omega), Nat.add_sub_cancel] at this
    exact this
  have hs := meet_sep n hc
  have hA : ∀ w, w < p → L w < x := fun w hw => (hs w (by omega)).elim id (fun z2 => absurd (Int32.lt_of_lt_of_le (hlt w hw) hxz) (fun z3 => Int32.lt_irrefl (Int32.lt_trans z2 z3)))
  have hB : ∀ w, p ≤ w → w < n → z < F w := fun w a b => (hs w b).elim (fun z2 => absurd (Int32.lt_of_le_of_lt (h.1 w b) z2) (fun z3 => Int32.lt_irrefl (Int32.lt_trans (hgt w a b) z3))) id
  intro a b hab hb
  rcases Nat.lt_trichotomy a p with e | e | e
  · rw [r1 _ _ _ e]
    rcases Nat.lt_trichotomy b p with e2 | e2 | e2
    · rw [r1 _ _ _ e2]; exact hq a b hab (by omega)
    · rw [e2, r2]; exact hA a e
    · rw [r3 _ _ _ e2 (by omega)]
      by_cases e3 : b - 1 = a
      · omega
      · exact hq a (b - 1) (by omega) (by omega)
  · rw [e, r2, r3 _ _ _ (by omega) (by omega)]
    exact hB (b - 1) (by omega) (by omega)
  · rw [r3 _ _ _ e (by omega), r3 _ _ _ (by omega) (by omega)]
    exact hq (a - 1) (b - 1) (by omega) (by omega)
theorem WQ_rm {F L : Nat → Int32} {n a : Nat} (h : WQf F L n) (ha : a < n) : WQf (rmRow F a (n - 1)) (rmRow L a (n - 1)) (n - 1) := by
  have r1 : ∀ (f : Nat → Int32) w, w < a → rmRow f a (n - 1) w = f w := fun f w hw => by unfold rmRow; rw [if_neg (by omega)]
  have r2 : ∀ (f : Nat → Int32) w, a ≤ w → w < n - 1 → rmRow f a (n - 1) w = f (w + 1) := fun f w h1 h2 => by unfold rmRow; rw [if_pos ⟨h1, h2⟩]
  intro b c hbc hc
  rcases Nat.lt_or_ge b a with e | e
  · rw [r1 _ _ e]
    rcases Nat.lt_or_ge c a with e2 | e2
    · rw [r1 _ _ e2]; exact h b c hbc (by omega)
    · rw [r2 _ _ e2 hc]; exact h b (c + 1) (by omega) (by omega)
  · rw [r2 _ _ e (by omega), r2 _ _ (by omega) hc]
    exact h (b + 1) (c + 1) (by omega) (by omega)
theorem WQ.sm {M M' : Mem} {i i' : Nat} (h : WQ M i) (hL : LW M i) (hs : Sm M M' i i') : WQ M' i' := by
  have h6 := hL.wr.2
  intro a b hab hb
  rw [hs.nw] at hb
  rw [hs.w 4 (by omega) (by omega) a (by omega), hs.w 3 (by omega) (by omega) b (by omega)]
  exact h a b hab hb
theorem WQ.cells {M M' : Mem} {i : Nat} (h : WQ M i) (hc : ∀ o, 2 ≤ o → o ≤ 4 → M'.1 (LA i + o) = M.1 (LA i + o)) : WQ M' i := by
  unfold WQ nWn
  rw [hc 2 (by omega) (by omega), hc 3 (by omega) (by omega), hc 4 (by omega) (by omega)]
  exact h
theorem WQ.ins {M : Mem} {i n : Nat} {x z : Int32} (h : WQ M i) (hX : XL M i) (hn : n = nWn M i) (h6 : n < 6) (hxz : x ≤ z) (hc : meetB (M.1 (LA i + 3)) (M.1 (LA i + 4)) x z n = false) : WQ (insM i n x z M) i := by
  have e3 : nWn (insM i n x z M) i = n + 1 := by unfold nWn insM; rw [up_same, nI_clamp (by omega)]
  have c3 : (insM i n x z M).1 (LA i + 3) = insRow (M.1 (LA i + 3)) n (insPos (M.1 (LA i + 3)) x n) x := by unfold insM; rw [up_cell _ _ _ (by omega), setRow_cell _ _ (by omega), setRow_same]
  have c4 : (insM i n x z M).1 (LA i + 4) = insRow (M.1 (LA i + 4)) n (insPos (M.1 (LA i + 3)) x n) z := by unfold insM; rw [up_cell _ _ _ (by omega), setRow_same]
  unfold WQ
  rw [e3, c3, c4]
  exact WQ_ins (by rw [hn]; exact hX.2.1) (by rw [hn]; exact h) hxz rfl hc
theorem WQ.rm {M : Mem} {i n a : Nat} (h : WQ M i) (hn : n = nWn M i) (h6 : n ≤ 6) (ha : a < n) : WQ (rmM i n a M) i := by
  have e3 : nWn (rmM i n a M) i = n - 1 := by unfold nWn rmM; rw [setRow_cell _ _ (by omega), setRow_cell _ _ (by omega), up_same, nI_clamp (by omega)]
  have c3 : (rmM i n a M).1 (LA i + 3) = rmRow (M.1 (LA i + 3)) a (n - 1) := by unfold rmM; rw [setRow_cell _ _ (by omega), setRow_same]
  have c4 : (rmM i n a M).1 (LA i + 4) = rmRow (M.1 (LA i + 4)) a (n - 1) := by unfold rmM; rw [setRow_same]
  unfold WQ
  rw [e3, c3, c4]
  exact WQ_rm (by rw [hn]; exact h) ha
theorem lks_win {i : Nat} {rest : Bool} {M : Mem} : ∀ q, ∀ o, 2 ≤ o → o ≤ 4 → (lksM i rest M q).1 (LA i + o) = M.1 (LA i + o)
  | 0, _, _, _ => rfl
  | q + 1, o, o2, o4 => by
    have hg := LK_ge i q
    show (lkStep i q rest (lksM i rest M q)).1 (LA i + o) = _
    rw [lkStep_cell (by omega) (by omega) (by omega)]
    exact lks_win q o o2 o4
theorem hours_win {i : Nat} {M : Mem} : ∀ q, ∀ o, 2 ≤ o → o ≤ 4 → (hoursM i M q).1 (LA i + o) = M.1 (LA i + o)
  | 0, _, _, _ => rfl
  | q + 1, o, o2, o4 => by
    have h1 : (hourM i (hoursM i M q)).1 (LA i + o) = (hourM0 i (hoursM i M q)).1 (LA i + o) := lks_win _ o o2 o4
    show (hourM i (hoursM i M q)).1 (LA i + o) = _
    rw [h1, show (hourM0 i (hoursM i M q)).1 (LA i + o) = (hoursM i M q).1 (LA i + o) from up_cell _ _ _ (by omega)]
    exact hours_win q o o2 o4
