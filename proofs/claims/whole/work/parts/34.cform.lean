/-! the command text: forms, commands, the whole -/
def PMs (i N : Nat) (s : PS) (m : Mem) : Prop := CT m N s.1 ∧ s.1 ≤ N ∧ m.1 (CM i) 2 = nI (min s.2.length 3) ∧ ∀ j, j < s.2.length → j < 3 → m.1 (CM i + 1) j = s.2.getD j 0
def PG (i : Nat) (m m2 : Mem) : Prop := m2.2 = m.2 ∧ (∀ k, k ≠ 333 → k ≠ CM i → k ≠ CM i + 1 → m2.1 k = m.1 k) ∧ ∀ f, f ≠ 2 → m2.1 333 f = m.1 333 f
def PF (i : Nat) (m m2 : Mem) : Prop := PG i m m2 ∧ m2.1 (CM i) 0 = m.1 (CM i) 0
theorem PG.trans {i : Nat} {m m2 m3 : Mem} (h : PG i m m2) (h2 : PG i m2 m3) : PG i m m3 := ⟨h2.1.trans h.1, fun k a b c => (h2.2.1 k a b c).trans (h.2.1 k a b c), fun f a => (h2.2.2 f a).trans (h.2.2 f a)⟩
theorem PF.trans {i : Nat} {m m2 m3 : Mem} (h : PF i m m2) (h2 : PF i m2 m3) : PF i m m3 := ⟨h.1.trans h2.1, h2.2.trans h.2⟩
theorem PF.refl (i : Nat) (m : Mem) : PF i m m := ⟨⟨rfl, fun _ _ _ _ => rfl, fun _ _ => rfl⟩, rfl⟩
theorem CMne (i : Nat) : CM i ≠ 333 ∧ CM i + 1 ≠ 333 ∧ CM i ≠ 334 ∧ CM i + 1 ≠ 334 ∧ CM i + 1 ≠ CM i := by unfold CM; omega
theorem PF.txt {i : Nat} {m m2 : Mem} (h : PF i m m2) : m2.1 334 = m.1 334 := h.1.2.1 334 (by decide) (Ne.symm (CMne i).2.2.1) (Ne.symm (CMne i).2.2.2.1)
theorem getD_app_lt {l : List Int32} {x : Int32} {j : Nat} (h : j < l.length) : (l ++ [x]).getD j 0 = l.getD j 0 := by simp [List.getD, List.getElem?_append_left h]
theorem getD_app_eq {l : List Int32} {x : Int32} : (l ++ [x]).getD l.length 0 = x := by simp [List.getD]
theorem PMs.pos {i N : Nat} {s : PS} {m : Mem} (h : PMs i N s m) {p' : Nat} (hp : p' ≤ N) : PMs i N (p', s.2) (up m 333 2 (nI p')) ∧ PF i m (up m 333 2 (nI p')) := by
  obtain ⟨c1, c2, c3, c4, c5⟩ := CMne i
  obtain ⟨hc, hpN, hl, hn⟩ := h
  refine ⟨⟨⟨by rw [up_slot _ _ _ (by decide)]; exact hc.1, hc.2.1, up_same _ _ _ _, Nat.le_trans hp hc.2.1⟩, hp, by rw [up_cell _ _ _ c1]; exact hl, fun j a b => by rw [up_cell _ _ _ c2]; exact hn j a b⟩, ⟨⟨rfl, fun k a _ _ => up_cell _ _ _ a, fun f a => up_slot _ _ _ a⟩, by rw [up_cell _ _ _ c1]⟩⟩
theorem PMs.add {i N : Nat} {s : PS} {m : Mem} (h : PMs i N s m) (x : Int32) : PMs i N (s.1, s.2 ++ [x]) (addM i s.2.length x m) ∧ PF i m (addM i s.2.length x m) := by
  obtain ⟨c1, c2, c3, c4, c5⟩ := CMne i
  obtain ⟨hc, hpN, hl, hn⟩ := h
  have hlen : (s.2 ++ [x]).length = s.2.length + 1 := by simp
  unfold addM
  split
  · rename_i h3
    refine ⟨⟨⟨by rw [up_cell _ _ _ (Ne.symm c1), up_cell _ _ _ (Ne.symm c2)]; exact hc.1, hc.2.1, by rw [up_cell _ _ _ (Ne.symm c1), up_cell _ _ _ (Ne.symm c2)]; exact hc.2.2.1, hc.2.2.2⟩, hpN, ?_, fun j a b => ?_⟩, ⟨⟨rfl, fun k a b c => by rw [up_cell _ _ _ b, up_cell _ _ _ c], fun f a => by rw [up_cell _ _ _ (Ne.symm c1), up_cell _ _ _ (Ne.symm c2)]⟩, by rw [up_slot _ _ _ (by decide), up_cell _ _ _ (Ne.symm c5)]⟩⟩
    · show (up _ (CM i) 2 _).1 (CM i) 2 = nI (min (s.2 ++ [x]).length 3)
      rw [up_same, hlen, show min (s.2.length + 1) 3 = s.2.length + 1 by omega]
    · have a' : j < (s.2 ++ [x]).length := a
      show (up _ (CM i) 2 _).1 (CM i + 1) j = (s.2 ++ [x]).getD j 0
      rw [up_cell _ _ _ c5]
      by_cases e : j = s.2.length
      · subst e; rw [up_same, getD_app_eq]
      · rw [up_slot _ _ _ e, getD_app_lt (by omega)]
        exact hn j (by omega) b
  · rename_i h3
    refine ⟨⟨hc, hpN, ?_, fun j a b => ?_⟩, PF.refl i m⟩
    · show m.1 (CM i) 2 = nI (min (s.2 ++ [x]).length 3)
      rw [hl, hlen, show min (s.2.length + 1) 3 = min s.2.length 3 by omega]
    · show m.1 (CM i + 1) j = (s.2 ++ [x]).getD j 0
      rw [getD_app_lt (by omega)]
      exact hn j (by omega) b
theorem PMs.num {i N : Nat} {s : PS} {m : Mem} (h : PMs i N s m) {T : Nat → Int32} (hT : m.1 334 = T) (most : Nat) (fac : Int32) : PMs i N (numS T N most fac s).2 (addM i s.2.length (fac * nmV T s.1 (dgs T N most s.1)) (up m 333 2 (nI (s.1 + dgs T N most s.1)))) ∧ PF i m (addM i s.2.length (fac * nmV T s.1 (dgs T N most s.1)) (up m 333 2 (nI (s.1 + dgs T N most s.1)))) := by
  have h1 := h.pos (p' := s.1 + dgs T N most s.1) (dgs_N h.2.1)
  have h2 := PMs.add h1.1 (fac * nmV T s.1 (dgs T N most s.1))
  exact ⟨h2.1, h1.2.trans h2.2⟩
theorem drop_form {T : Nat → Int32} {N : Nat} {l : List Int32} {q : Nat} (h : q < l.length) (s : PS) : formS T N (l.drop q) s = if (partS T N (l.getD q 0) s).1 = true then formS T N (l.drop (q + 1)) (partS T N (l.getD q 0) s).2 else (false, (partS T N (l.getD q 0) s).2) := by
  rw [List.drop_eq_getElem_cons h, show l.getD q 0 = l[q] by simp [List.getD, h]]
  rfl
theorem frm_pos (k : Nat) : 0 < (frm k).length := by unfold frm; split <;> decide
def kOf (T : Nat → Int32) (N p : Nat) : Nat := if stB T N p 108 = true then 0 else if stB T N p 102 = true then 1 else if stB T N p 97 = true then 2 else if stB T N p 112 = true then 3 else if stB T N p 119 = true then 4 else if stB T N p 111 = true then 5 else if stB T N p 115 = true then 6 else 7
theorem kOf_none {T : Nat → Int32} {N p : Nat} (h : ∀ k, k < 7 → stB T N p ((frm k).getD 0 0) = false) : kOf T N p = 7 := by
  have h0 : stB T N p 108 = false := h 0 (by decide)
  have h1 : stB T N p 102 = false := h 1 (by decide)
  have h2 : stB T N p 97 = false := h 2 (by decide)
  have h3 : stB T N p 112 = false := h 3 (by decide)
  have h4 : stB T N p 119 = false := h 4 (by decide)
  have h5 : stB T N p 111 = false := h 5 (by decide)
  have h6 : stB T N p 115 = false := h 6 (by decide)
  simp [kOf, h0, h1, h2, h3, h4, h5, h6]
theorem kOf_some {T : Nat → Int32} {N p k : Nat} (hk : k < 7) (h : ∀ k', k' < k → stB T N p ((frm k').getD 0 0) = false) (hs : stB T N p ((frm k).getD 0 0) = true) : kOf T N p = k := by
  have g0 : 0 < k → stB T N p 108 = false := fun z => h 0 z
  have g1 : 1 < k → stB T N p 102 = false := fun z => h 1 z
  have g2 : 2 < k → stB T N p 97 = false := fun z => h 2 z
  have g3 : 3 < k → stB T N p 112 = false := fun z => h 3 z
  have g4 : 4 < k → stB T N p 119 = false := fun z => h 4 z
  have g5 : 5 < k → stB T N p 111 = false := fun z => h 5 z
  rcases (by omega : k = 0 ∨ k = 1 ∨ k = 2 ∨ k = 3 ∨ k = 4 ∨ k = 5 ∨ k = 6) with rfl | rfl | rfl | rfl | rfl | rfl | rfl
  · have e : stB T N p 108 = true := hs
    simp [kOf, e]
  · have e : stB T N p 102 = true := hs
    simp [kOf, e, g0]
  · have e : stB T N p 97 = true := hs
    simp [kOf, e, g0, g1]
  · have e : stB T N p 112 = true := hs
    simp [kOf, e, g0, g1, g2]
  · have e : stB T N p 119 = true := hs
    simp [kOf, e, g0, g1, g2, g3]
  · have e : stB T N p 111 = true := hs
    simp [kOf, e, g0, g1, g2, g3, g4]
  · have e : stB T N p 115 = true := hs
    simp [kOf, e, g0, g1, g2, g3, g4, g5]
abbrev CS : Type := List (Nat × List Int32)
def cmdsS (T : Nat → Int32) (N : Nat) : Nat → Nat → CS → Bool × Nat × CS
  | 0, p, acc => (false, p, acc)
  | f + 1, p, acc => if kOf T N p = 7 then (false, p, acc)
    else if (formS T N (frm (kOf T N p)) (p, [])).1 = true then
      (if N ≤ (formS T N (frm (kOf T N p)) (p, [])).2.1 then (true, (formS T N (frm (kOf T N p)) (p, [])).2.1, acc ++ [(kOf T N p, (formS T N (frm (kOf T N p)) (p, [])).2.2)])
       else if stB T N (formS T N (frm (kOf T N p)) (p, [])).2.1 59 = true then cmdsS T N f ((formS T N (frm (kOf T N p)) (p, [])).2.1 + 1) (acc ++ [(kOf T N p, (formS T N (frm (kOf T N p)) (p, [])).2.2)])
       else (false, (formS T N (frm (kOf T N p)) (p, [])).2.1, acc ++ [(kOf T N p, (formS T N (frm (kOf T N p)) (p, [])).2.2)]))
    else (false, (formS T N (frm (kOf T N p)) (p, [])).2.1, acc)
def AccOK (acc : CS) (m : Mem) : Prop := ∀ i, i < acc.length → m.1 (CM i) 0 = nI (acc.getD i (0, [])).1 ∧ (acc.getD i (0, [])).1 < 7 ∧ ∀ j, j < (acc.getD i (0, [])).2.length → j < 3 → m.1 (CM i + 1) j = (acc.getD i (0, [])).2.getD j 0
def FP (m m2 : Mem) : Prop := m2.2 = m.2 ∧ (∀ k, (k < 333 ∨ k = 334 ∨ 360 ≤ k) → m2.1 k = m.1 k) ∧ m2.1 333 1 = m.1 333 1
theorem FP.trans {m m2 m3 : Mem} (h : FP m m2) (h2 : FP m2 m3) : FP m m3 := ⟨h2.1.trans h.1, fun k a => (h2.2.1 k a).trans (h.2.1 k a), h2.2.2.trans h.2.2⟩
theorem PG.fp {i : Nat} {m m2 : Mem} (h : PG i m m2) (hi : i < 12) : FP m m2 := ⟨h.1, fun k a => h.2.1 k (by omega) (by unfold CM; omega) (by unfold CM; omega), h.2.2 1 (by decide)⟩
theorem AccOK.keep {acc : CS} {m m2 : Mem} {q : Nat} (h : AccOK acc m) (hq : acc.length ≤ q) (hk : ∀ i, i < q → m2.1 (CM i) = m.1 (CM i) ∧ m2.1 (CM i + 1) = m.1 (CM i + 1)) : AccOK acc m2 := by
  intro i hi
  obtain ⟨h1, h2, h3⟩ := h i hi
  obtain ⟨k1, k2⟩ := hk i (by omega)
  exact ⟨by rw [k1]; exact h1, h2, fun j a b => by rw [k2]; exact h3 j a b⟩
theorem AccOK.snoc {acc : CS} {m : Mem} {x : Nat × List Int32} (h : AccOK acc m) (h1 : m.1 (CM acc.length) 0 = nI x.1) (h2 : x.1 < 7) (h3 : ∀ j, j < x.2.length → j < 3 → m.1 (CM acc.length + 1) j = x.2.getD j 0) : AccOK (acc ++ [x]) m := by
  intro i hi
  have hi' : i < acc.length + 1 := by simpa using hi
  by_cases e : i = acc.length
  · subst e
    have hx : (acc ++ [x]).getD acc.length (0, []) = x := by simp [List.getD]
    rw [hx]
    exact ⟨h1, h2, h3⟩
  · have hx : (acc ++ [x]).getD i (0, []) = acc.getD i (0, []) := by simp [List.getD, List.getElem?_append_left (show i < acc.length by omega)]
    rw [hx]
    exact h i (by omega)

set_option maxRecDepth 100000 in
set_option maxHeartbeats 1000000 in
theorem c_X2_readPart {g : xG} (hG : GK g) {i : Nat} (hi : i < 12) {m : Mem} {T : Nat → Int32} (hT : m.1 334 = T) {N : Nat} {s : PS} (hPM : PMs i N s m) {c : Int32} : CC g yX2_readPart (.code yX2_readPart cX2_readPart 3 (some .boolean)) 4 0 0 [.ref (ad g 333), .int c, .ref (ad g (CM i))] m (rI (fun v m2 => v = (if (partS T N c s).1 = true then 1 else 0) ∧ PMs i N (partS T N c s).2 m2 ∧ PF i m m2)) noX := by
  refine CC.mk hG RX2 rfl (by decide +kernel) rfl (Nat.le_of_ble_eq_true rfl) (fun sz B hB hX => ?_)
  show V g B 0 0 _ (hp g m) sz 0 [some (.ref (ad g 333)), some (.int c), some (.ref (ad g (CM i)))] []
  refine V.iload_n (pc := 0) hB dX2_readPart_0 rfl ?_
  refine V.bipush (pc := 1) (v := 68) hB dX2_readPart_1 rfl ?_
  refine V.icmp_ne (pc := 3) (tgt := 14) hB dX2_readPart_3 (by decide) (fun c_3 => ?_) (fun c_3 => ?_)
  · refine V.iload_n (pc := 14) hB dX2_readPart_14 rfl ?_
    refine V.bipush (pc := 15) (v := 78) hB dX2_readPart_15 rfl ?_
    refine V.icmp_ne (pc := 17) (tgt := 28) hB dX2_readPart_17 (by decide) (fun c_17 => ?_) (fun c_17 => ?_)
    · refine V.iload_n (pc := 28) hB dX2_readPart_28 rfl ?_
      refine V.bipush (pc := 29) (v := 84) hB dX2_readPart_29 rfl ?_
      refine V.icmp_ne (pc := 31) (tgt := 55) hB dX2_readPart_31 (by decide) (fun c_31 => ?_) (fun c_31 => ?_)
      · refine V.aload_n (pc := 55) hB dX2_readPart_55 rfl ?_
        refine V.iload_n (pc := 56) hB dX2_readPart_56 rfl ?_
        refine V.cv (pc := 57) hB cw_X2_readSign wm_X2_36 wi_X2_readSign ws_X2_readSign dX2_readPart_57 (c_X2_readSign hG hPM.1) (hp_at (ca_CText _)) fk_CText rfl (by omega) (by decide) rfl (by exact Nat.le_of_ble_eq_true rfl) (by omega) (by omega) kN (kI (fun v_57 m_57 sz h_57 => ?_)) rfl
        rw [hT] at h_57
        obtain ⟨rfl, rfl⟩ := h_57
        have hp : partS T N c s = sgnS T N c s := by unfold partS; rw [if_neg c_3, if_neg c_17, if_neg c_31]
        refine V.retI (pc := 60) hB dX2_readPart_60 rfl (bnar _) (by omega) (by omega) ?_
        rw [hp]
        unfold sgnS
        by_cases hv : stB T N s.1 c = true
        · rw [if_pos hv, if_pos hv, if_pos hv]
          obtain ⟨hPM2, hF2⟩ := hPM.pos (p' := s.1 + 1) (stB_lt hv).1
          exact ⟨rfl, hPM2, hF2⟩
        · rw [if_neg hv, if_neg hv, if_neg hv]
          exact ⟨rfl, hPM, PF.refl i m⟩
      · refine V.aload_n (pc := 34) hB dX2_readPart_34 rfl ?_
        refine V.iconst (pc := 35) (v := 3) hB dX2_readPart_35 rfl ?_
        refine V.aload_n (pc := 36) hB dX2_readPart_36 rfl ?_
        refine V.bipush (pc := 37) (v := 45) hB dX2_readPart_37 rfl ?_
        refine V.cv (pc := 39) hB cw_X2_readSign wm_X2_36 wi_X2_readSign ws_X2_readSign dX2_readPart_39 (c_X2_readSign hG hPM.1) (hp_at (ca_CText _)) fk_CText rfl (by omega) (by decide) rfl (by exact Nat.le_of_ble_eq_true rfl) (by omega) (by omega) kN (kI (fun v_39 m_39 sz h_39 => ?_)) rfl
        rw [hT] at h_39
        obtain ⟨rfl, rfl⟩ := h_39
        refine V.if_eq (pc := 42) (tgt := 49) hB dX2_readPart_42 (by decide) (fun c_42 => ?_) (fun c_42 => ?_)
        · have hv := b00 c_42
          have hv2 : ¬ stB T N s.1 45 = true := by rw [hv]; decide
          rw [if_neg hv2]
          have hp : partS T N c s = numS T N 3 1 s := by unfold partS; rw [if_neg c_3, if_neg c_17, if_pos c_31, if_neg hv2]
          have hPM2 := hPM
          have hT2 := hT
          have hF2 := PF.refl i m
          have R := c_X2_readNumber hG hi hPM2.1 hPM2.2.1 (most := 3) (mx := 3) (fac := 1) (by decide) rfl hPM2.2.2.1
          have hfin := hPM2.num hT2 3 1
          refine V.iconst (pc := 49) (v := 1) hB dX2_readPart_49 rfl ?_
          refine V.aload_n (pc := 50) hB dX2_readPart_50 rfl ?_
          refine V.cv (pc := 51) hB cw_X2_readNumber wm_X2_78 wi_X2_readNumber ws_X2_readNumber dX2_readPart_51 (R) (hp_at (ca_CText _)) fk_CText rfl (by omega) (by decide) rfl (by exact Nat.le_of_ble_eq_true rfl) (by omega) (by omega) kN (kI (fun v_51 m_51 sz h_51 => ?_)) rfl
          rw [hT2] at h_51
          obtain ⟨rfl, rfl⟩ := h_51
          refine V.retI (pc := 54) hB dX2_readPart_54 rfl (bnar _) (by omega) (by omega) ?_
          rw [hp]
          exact ⟨rfl, hfin.1, hF2.trans hfin.2⟩
        · have hv := b01 c_42
          rw [if_pos hv]
          have hp : partS T N c s = numS T N 3 (-1) (s.1 + 1, s.2) := by unfold partS; rw [if_neg c_3, if_neg c_17, if_pos c_31, if_pos hv]
          obtain ⟨hPM2, hF2⟩ := hPM.pos (p' := s.1 + 1) (stB_lt hv).1
          have hT2 := hF2.txt.trans hT
          have R := c_X2_readNumber hG hi hPM2.1 hPM2.2.1 (most := 3) (mx := 3) (fac := -1) (by decide) rfl hPM2.2.2.1
          have hfin := hPM2.num hT2 3 (-1)
          refine V.iconst (pc := 45) (v := (-1)) hB dX2_readPart_45 rfl ?_
          refine V.goto (pc := 46) (tgt := 50) hB dX2_readPart_46 (by decide) ?_
          refine V.aload_n (pc := 50) hB dX2_readPart_50 rfl ?_
          refine V.cv (pc := 51) hB cw_X2_readNumber wm_X2_78 wi_X2_readNumber ws_X2_readNumber dX2_readPart_51 (R) (hp_at (ca_CText _)) fk_CText rfl (by omega) (by decide) rfl (by exact Nat.le_of_ble_eq_true rfl) (by omega) (by omega) kN (kI (fun v_51 m_51 sz h_51 => ?_)) rfl
          rw [hT2] at h_51
          obtain ⟨rfl, rfl⟩ := h_51
          refine V.retI (pc := 54) hB dX2_readPart_54 rfl (bnar _) (by omega) (by omega) ?_
          rw [hp]
          exact ⟨rfl, hfin.1, hF2.trans hfin.2⟩
    · refine V.aload_n (pc := 20) hB dX2_readPart_20 rfl ?_
      refine V.iconst (pc := 21) (v := 3) hB dX2_readPart_21 rfl ?_
      refine V.iconst (pc := 22) (v := 1) hB dX2_readPart_22 rfl ?_
      refine V.aload_n (pc := 23) hB dX2_readPart_23 rfl ?_
      refine V.cv (pc := 24) hB cw_X2_readNumber wm_X2_78 wi_X2_readNumber ws_X2_readNumber dX2_readPart_24 (c_X2_readNumber hG hi hPM.1 hPM.2.1 (most := 3) (mx := 3) (fac := 1) (by decide) rfl hPM.2.2.1) (hp_at (ca_CText _)) fk_CText rfl (by omega) (by decide) rfl (by exact Nat.le_of_ble_eq_true rfl) (by omega) (by omega) kN (kI (fun v_24 m_24 sz h_24 => ?_)) rfl
      rw [hT] at h_24
      obtain ⟨rfl, rfl⟩ := h_24
      have hp : partS T N c s = numS T N 3 1 s := by unfold partS; rw [if_neg c_3, if_pos c_17]
      refine V.retI (pc := 27) hB dX2_readPart_27 rfl (bnar _) (by omega) (by omega) ?_
      rw [hp]
      exact ⟨rfl, hPM.num hT _ _⟩
  · refine V.aload_n (pc := 6) hB dX2_readPart_6 rfl ?_
    refine V.iconst (pc := 7) (v := 1) hB dX2_readPart_7 rfl ?_
    refine V.iconst (pc := 8) (v := 1) hB dX2_readPart_8 rfl ?_
    refine V.aload_n (pc := 9) hB dX2_readPart_9 rfl ?_
    refine V.cv (pc := 10) hB cw_X2_readNumber wm_X2_78 wi_X2_readNumber ws_X2_readNumber dX2_readPart_10 (c_X2_readNumber hG hi hPM.1 hPM.2.1 (most := 1) (mx := 1) (fac := 1) (by decide) rfl hPM.2.2.1) (hp_at (ca_CText _)) fk_CText rfl (by omega) (by decide) rfl (by exact Nat.le_of_ble_eq_true rfl) (by omega) (by omega) kN (kI (fun v_10 m_10 sz h_10 => ?_)) rfl
    rw [hT] at h_10
    obtain ⟨rfl, rfl⟩ := h_10
    have hp : partS T N c s = numS T N 1 1 s := by unfold partS; rw [if_pos c_3]
    refine V.retI (pc := 13) hB dX2_readPart_13 rfl (bnar _) (by omega) (by omega) ?_
    rw [hp]
    exact ⟨rfl, hPM.num hT _ _⟩

set_option maxRecDepth 100000 in
set_option maxHeartbeats 1000000 in
theorem c_X2_readForm {g : xG} (hG : GK g) {z : xE} (hE : GE g z) {a vv : Nat} {byt : List Int32} (hs : strAt g a vv byt.length byt) {i : Nat} (hi : i < 12) {m : Mem} {T : Nat → Int32} (hT : m.1 334 = T) {N : Nat} {s : PS} (hPM : PMs i N s m) : CC g yX2_readForm (.code yX2_readForm cX2_readForm 4 (some .boolean)) 6 0 0 [.ref (ad g 333), .ref a, .ref (ad g (CM i))] m (rI (fun v m2 => v = (if (formS T N byt s).1 = true then 1 else 0) ∧ PMs i N (formS T N byt s).2 m2 ∧ PF i m m2)) noX := by
  have hn100 := hs.2.2.2.2.1
  refine CC.mk hG RX2 rfl (by decide +kernel) rfl (Nat.le_of_ble_eq_true rfl) (fun sz B hB hX => ?_)
  show V g B 0 0 _ (hp g m) sz 0 [some (.ref (ad g 333)), some (.ref a), some (.ref (ad g (CM i))), none] []
  have loop : ∀ q : Nat, q ≤ byt.length → ∀ (sz : Nat) (M : Mem) (s2 : PS), PMs i N s2 M → PF i m M → formS T N byt s = formS T N (byt.drop q) s2 → V g B 0 0 (QM g B 0 0 (rI (fun v m2 => v = (if (formS T N byt s).1 = true then 1 else 0) ∧ PMs i N (formS T N byt s).2 m2 ∧ PF i m m2)) noX) (hp g (M)) sz 2 [some (.ref (ad g 333)), some (.ref a), some (.ref (ad g (CM i))), some (.int (nI q))] [] := by
    refine loop_up (fun q hq ih => ?_)
    intro sz M s2 hP2 hF2 he
    have hT2 : M.1 334 = T := hF2.txt.trans hT
    refine V.iload_n (pc := 2) hB dX2_readForm_2 rfl ?_
    refine V.aload_n (pc := 3) hB dX2_readForm_3 rfl ?_
    refine V.cvr (pc := 4) hB cw_J0_length_8abf5 wm_X2_71 wi_J0_length_8abf5 ws_J0_length_8abf5 dX2_readForm_4 (c_J0_length_8abf5 hG hE hs) (RC.so hB hs.1) (by omega) (by decide) rfl (by exact Nat.le_of_ble_eq_true rfl) (by omega) (by omega) kN (kI (fun v_4 m_4 sz h_4 => ?_)) rfl
    obtain ⟨rfl, rfl⟩ := h_4
    refine V.icmp_ge (pc := 7) (tgt := 31) hB dX2_readForm_7 (by decide) (fun c_7 => ?_) (fun c_7 => ?_)
    · have hqn : q = byt.length := by have := (nI_leI (by omega) (by omega)).mp c_7; omega
      have hfin : formS T N byt s = (true, s2) := by rw [he, hqn, List.drop_length]; rfl
      refine V.iconst (pc := 31) (v := 1) hB dX2_readForm_31 rfl ?_
      refine V.retI (pc := 32) hB dX2_readForm_32 rfl (rfl) (by omega) (by omega) ?_
      rw [hfin]
      exact ⟨rfl, hP2, hF2⟩
    · have hlt : q < byt.length := Nat.not_le.mp (fun z => c_7 ((nI_leI (by omega) (by omega)).mpr z))
      refine V.aload_n (pc := 10) hB dX2_readForm_10 rfl ?_
      refine V.aload_n (pc := 11) hB dX2_readForm_11 rfl ?_
      refine V.iload_n (pc := 12) hB dX2_readForm_12 rfl ?_
      refine V.cvr (pc := 13) hB cw_J0_charAt_5068e wm_X2_56 wi_J0_charAt_5068e ws_J0_charAt_5068e dX2_readForm_13 (c_J0_charAt_5068e hG hE hs hlt) (RC.so hB hs.1) (by omega) (by decide) rfl (by exact Nat.le_of_ble_eq_true rfl) (by omega) (by omega) kN (kI (fun v_13 m_13 sz h_13 => ?_)) rfl
      obtain ⟨rfl, rfl⟩ := h_13
      refine V.aload_n (pc := 16) hB dX2_readForm_16 rfl ?_
      refine V.cv (pc := 17) hB cw_X2_readPart wm_X2_74 wi_X2_readPart ws_X2_readPart dX2_readForm_17 (c_X2_readPart hG hi hT2 hP2) (hp_at (ca_CText _)) fk_CText rfl (by omega) (by decide) rfl (by exact Nat.le_of_ble_eq_true rfl) (by omega) (by omega) kN (kI (fun v_17 m_17 sz h_17 => ?_)) rfl
      obtain ⟨rfl, hP3, hF3⟩ := h_17
      refine V.if_ne (pc := 20) (tgt := 25) hB dX2_readForm_20 (by decide) (fun c_20 => ?_) (fun c_20 => ?_)
      · have hv := b01 c_20
        refine V.iinc (pc := 25) (v := nI (q + 1)) hB dX2_readForm_25 rfl (nI_1 _) (by decide) rfl ?_
        refine V.goto (pc := 28) (tgt := 2) hB dX2_readForm_28 (by decide) ?_
        exact ih hlt sz _ _ hP3 (hF2.trans hF3) (by rw [he, drop_form hlt, if_pos hv])
      · have hv := b00 c_20
        have hfin : formS T N byt s = (false, (partS T N (byt.getD q 0) s2).2) := by rw [he, drop_form hlt, if_neg (by rw [hv]; decide)]
        refine V.iconst (pc := 23) (v := 0) hB dX2_readForm_23 rfl ?_
        refine V.retI (pc := 24) hB dX2_readForm_24 rfl (rfl) (by omega) (by omega) ?_
        rw [hfin]
        exact ⟨rfl, hP3, hF2.trans hF3⟩
  refine V.iconst (pc := 0) (v := 0) hB dX2_readForm_0 rfl ?_
  refine V.istore_n (pc := 1) hB dX2_readForm_1 (by decide) rfl ?_
  exact loop 0 (by omega) sz m s hPM (PF.refl i m) rfl

set_option maxRecDepth 100000 in
set_option maxHeartbeats 1000000 in
theorem c_X2_readCommand {g : xG} (hG : GK g) {z : xE} (hE : GE g z) {i : Nat} (hi : i < 12) {m : Mem} {T : Nat → Int32} (hT : m.1 334 = T) {N p : Nat} (hc : CT m N p) (hpN : p ≤ N) : CC g yX2_readCommand (.code yX2_readCommand cX2_readCommand 4 (some .boolean)) 7 0 0 [.ref (ad g 333), .ref (ad g (CM i))] m (rI (fun v m2 => (kOf T N p < 7 ∧ v = (if (formS T N (frm (kOf T N p)) (p, [])).1 = true then 1 else 0) ∧ PMs i N (formS T N (frm (kOf T N p)) (p, [])).2 m2 ∧ m2.1 (CM i) 0 = nI (kOf T N p) ∧ PG i m m2) ∨ (kOf T N p = 7 ∧ v = 0 ∧ m2 = m))) noX := by
  obtain ⟨c1, c2, c3, c4, c5⟩ := CMne i
  refine CC.mk hG RX2 rfl (by decide +kernel) rfl (Nat.le_of_ble_eq_true rfl) (fun sz B hB hX => ?_)
  show V g B 0 0 _ (hp g m) sz 0 [some (.ref (ad g 333)), some (.ref (ad g (CM i))), none, none] []
  have loop : ∀ k : Nat, k ≤ 7 → ∀ (sz : Nat) (x3 : Option Value), (∀ k2, k2 < k → stB T N p ((frm k2).getD 0 0) = false) → V g B 0 0 (QM g B 0 0 (rI (fun v m2 => (kOf T N p < 7 ∧ v = (if (formS T N (frm (kOf T N p)) (p, [])).1 = true then 1 else 0) ∧ PMs i N (formS T N (frm (kOf T N p)) (p, [])).2 m2 ∧ m2.1 (CM i) 0 = nI (kOf T N p) ∧ PG i m m2) ∨ (kOf T N p = 7 ∧ v = 0 ∧ m2 = m))) noX) (hp g (m)) sz 2 [some (.ref (ad g 333)), some (.ref (ad g (CM i))), some (.int (nI k)), x3] [] := by
    refine loop_up (fun k hk ih => ?_)
    intro sz x3 hno
    refine V.iload_n (pc := 2) hB dX2_readCommand_2 rfl ?_
    refine V.getsN (pc := 3) hB hE.kinds wfn_KINDS dX2_readCommand_3 ?_
    refine V.stlen (pc := 6) hB hE.kindsT (v := 7) rfl dX2_readCommand_6 ?_
    refine V.icmp_ge (pc := 7) (tgt := 60) hB dX2_readCommand_7 (by decide) (fun c_7 => ?_) (fun c_7 => ?_)
    · have hk8 : k = 7 := by have := (nI_leI (a := 7) (by decide) (by omega)).mp c_7; omega
      subst hk8
      refine V.iconst (pc := 60) (v := 0) hB dX2_readCommand_60 rfl ?_
      refine V.retI (pc := 61) hB dX2_readCommand_61 rfl (rfl) (by omega) (by omega) ?_
      exact Or.inr ⟨kOf_none hno, rfl, rfl⟩
    · have hk7 : k < 7 := Nat.not_le.mp (fun z => c_7 ((nI_leI (a := 7) (by decide) (by omega)).mpr z))
      have hKv : (fun j => Value.ref (g.2.2.2 j)) (nI k).toNatClampNeg = Value.ref (g.2.2.2 k) := by show Value.ref (g.2.2.2 (nI k).toNatClampNeg) = _; rw [nI_clamp (by omega)]
      refine V.getsN (pc := 10) hB hE.kinds wfn_KINDS dX2_readCommand_10 ?_
      refine V.iload_n (pc := 13) hB dX2_readCommand_13 rfl ?_
      refine V.stq (pc := 14) hB hE.kindsT (ix_nI hk7 (by decide)).2 hKv dX2_readCommand_14 ?_
      refine V.sgetf (pc := 15) hB (hE.form hk7) wf_X2_44 dX2_readCommand_15 ?_
      refine V.astore_n (pc := 18) hB dX2_readCommand_18 (by decide) rfl ?_
      refine V.aload_n (pc := 19) hB dX2_readCommand_19 rfl ?_
      refine V.cvr (pc := 20) hB cw_J0_isEmpty_aae02 wm_X2_50 wi_J0_isEmpty_aae02 ws_J0_isEmpty_aae02 dX2_readCommand_20 (c_J0_isEmpty_aae02 hG hE (hE.str hk7) (frm_pos k)) (RC.so hB (hE.str hk7).1) (by omega) (by decide) rfl (by exact Nat.le_of_ble_eq_true rfl) (by omega) (by omega) kN (kI (fun v_20 m_20 sz h_20 => ?_)) rfl
      obtain ⟨rfl, hm_20⟩ := h_20
      obtain rfl := hm_20.symm
      refine V.if_ne (pc := 23) (tgt := 54) hB dX2_readCommand_23 (by decide) (fun c_23 => ?_) (fun c_23 => ?_)
      · exact absurd rfl c_23
      · refine V.aload_n (pc := 26) hB dX2_readCommand_26 rfl ?_
        refine V.aload_n (pc := 27) hB dX2_readCommand_27 rfl ?_
        refine V.iconst (pc := 28) (v := 0) hB dX2_readCommand_28 rfl ?_
        refine V.cvr (pc := 29) hB cw_J0_charAt_5068e wm_X2_56 wi_J0_charAt_5068e ws_J0_charAt_5068e dX2_readCommand_29 (c_J0_charAt_5068e hG hE (hE.str hk7) (q := 0) (frm_pos k)) (RC.so hB (hE.str hk7).1) (by omega) (by decide) rfl (by exact Nat.le_of_ble_eq_true rfl) (by omega) (by omega) kN (kI (fun v_29 m_29 sz h_29 => ?_)) rfl
        obtain ⟨rfl, hm_29⟩ := h_29
        obtain rfl := hm_29.symm
        refine V.cv (pc := 32) hB cw_X2_stands wm_X2_60 wi_X2_stands ws_X2_stands dX2_readCommand_32 (c_X2_stands hG hc) (hp_at (ca_CText _)) fk_CText rfl (by omega) (by decide) rfl (by exact Nat.le_of_ble_eq_true rfl) (by omega) (by omega) kN (kI (fun v_32 m_32 sz h_32 => ?_)) rfl
        rw [hT] at h_32
        obtain ⟨rfl, hm_32⟩ := h_32
        obtain rfl := hm_32.symm
        refine V.if_eq (pc := 35) (tgt := 54) hB dX2_readCommand_35 (by decide) (fun c_35 => ?_) (fun c_35 => ?_)
        · have hv := b00 c_35
          refine V.iinc (pc := 54) (v := nI (k + 1)) hB dX2_readCommand_54 rfl (nI_1 _) (by decide) rfl ?_
          refine V.goto (pc := 57) (tgt := 2) hB dX2_readCommand_57 (by decide) ?_
          exact ih hk7 sz _ (fun k2 h2 => (Nat.lt_succ_iff_lt_or_eq.mp h2).elim (hno k2) (fun e => by rw [e]; exact hv))
        · have hv := b01 c_35
          have hko := kOf_some hk7 hno hv
          refine V.aload_n (pc := 38) hB dX2_readCommand_38 rfl ?_
          refine V.getsN (pc := 39) hB hE.kinds wfn_KINDS dX2_readCommand_39 ?_
          refine V.iload_n (pc := 42) hB dX2_readCommand_42 rfl ?_
          refine V.stq (pc := 43) hB hE.kindsT (ix_nI hk7 (by decide)).2 hKv dX2_readCommand_43 ?_
          refine V.cv (pc := 44) hB cw_X1_begin wm_X2_63 wi_X1_begin ws_X1_begin dX2_readCommand_44 (c_X1_begin hG hi hk7) (hp_at (ca_Cmd (by omega) _)) fk_Cmd rfl (by omega) (by decide) rfl (by exact Nat.le_of_ble_eq_true rfl) (by omega) (by omega) kN (kV (fun m_44 sz h_44 => ?_)) rfl
          subst h_44
          have hPM : PMs i N (p, []) (up (up m (CM i) 0 (nI k)) (CM i) 2 0) := ⟨⟨by rw [up_cell _ _ _ (Ne.symm c1), up_cell _ _ _ (Ne.symm c1)]; exact hc.1, hc.2.1, by rw [up_cell _ _ _ (Ne.symm c1), up_cell _ _ _ (Ne.symm c1)]; exact hc.2.2.1, hc.2.2.2⟩, hpN, up_same _ _ _ _, fun j a _ => absurd a (Nat.not_lt_zero j)⟩
          have hT2 : (up (up m (CM i) 0 (nI k)) (CM i) 2 0).1 334 = T := by rw [up_cell _ _ _ (Ne.symm c3), up_cell _ _ _ (Ne.symm c3)]; exact hT
          refine V.aload_n (pc := 47) hB dX2_readCommand_47 rfl ?_
          refine V.aload_n (pc := 48) hB dX2_readCommand_48 rfl ?_
          refine V.aload_n (pc := 49) hB dX2_readCommand_49 rfl ?_
          refine V.cv (pc := 50) hB cw_X2_readForm wm_X2_67 wi_X2_readForm ws_X2_readForm dX2_readCommand_50 (c_X2_readForm hG hE (hE.str hk7) hi hT2 hPM) (hp_at (ca_CText _)) fk_CText rfl (by omega) (by decide) rfl (by exact Nat.le_of_ble_eq_true rfl) (by omega) (by omega) kN (kI (fun v_50 m_50 sz h_50 => ?_)) rfl
          obtain ⟨rfl, hP3, hF3⟩ := h_50
          refine V.retI (pc := 53) hB dX2_readCommand_53 rfl (bnar _) (by omega) (by omega) ?_
          refine Or.inl ?_
          rw [hko]
          refine ⟨hk7, rfl, hP3, ?_, ?_⟩
          · rw [hF3.2, up_slot _ _ _ (by decide), up_same]
          · have hG0 : PG i m (up (up m (CM i) 0 (nI k)) (CM i) 2 0) := ⟨rfl, fun k2 a b c => by rw [up_cell _ _ _ b, up_cell _ _ _ b], fun f _ => by rw [up_cell _ _ _ (Ne.symm c1), up_cell _ _ _ (Ne.symm c1)]⟩
            exact hG0.trans hF3.1
  refine V.iconst (pc := 0) (v := 0) hB dX2_readCommand_0 rfl ?_
  refine V.istore_n (pc := 1) hB dX2_readCommand_1 (by decide) rfl ?_
  exact loop 0 (by omega) sz none (fun k h => absurd h (Nat.not_lt_zero k))
