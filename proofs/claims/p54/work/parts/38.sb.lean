/-! the line's StringBuilder: its bytes stand at m.2.1, m.2.2 long -/
def SW (g : xG) (m : Mem) (n : Nat) : Prop := m.1 360 3 = nI n ∧ n ≤ m.2.2 ∧ m.2.2 ≤ 200 ∧ (m.2.1 = 361 ∨ 363 ≤ m.2.1) ∧ (∀ j, j < m.2.2 → fits .byte (.int (m.1 361 j)) = true) ∧ ex g (ad g m.2.1) = none
theorem cell_none {g : xG} {m : Mem} {k : Nat} (h : k = 361 ∨ 363 ≤ k) : cellAt g m k = none := by
  rcases h with rfl | h
  · rfl
  · unfold cellAt cellF
    repeat rw [if_neg (by omega)]
theorem SW.none {g : xG} {m : Mem} {n : Nat} (h : SW g m n) : cellAt g m m.2.1 = none := cell_none h.2.2.2.1
theorem cellF_v {g : xG} {v v' k : Nat} {c : Nat → Int32} (hk : ¬ k = 360) : cellF g v k c = cellF g v' k c := by
  unfold cellF
  simp only [if_neg hk]
theorem cellAt_v {g : xG} {m m' : Mem} {k : Nat} (hk : ¬ k = 360) (h : k ≠ 361 → m'.1 k = m.1 k) : cellAt g m' k = cellAt g m k := by
  by_cases h1 : k = 361
  · exact (cell_none (Or.inl h1)).trans (cell_none (Or.inl h1)).symm
  · unfold cellAt
    rw [h h1]
    exact cellF_v hk
theorem SW.nx {g : xG} {m : Mem} {n : Nat} (h : SW g m n) : ex g (ad g m.2.1) = Option.none := h.2.2.2.2.2
theorem SW.by {g : xG} {m : Mem} {n : Nat} (h : SW g m n) : ∀ j, j < m.2.2 → fits .byte (.int (m.1 361 j)) = true := h.2.2.2.2.1
theorem hp_sbup {g : xG} {m : Mem} {q : Nat} {v : Int32} : ∀ a, a ≠ ad g m.2.1 → hp g (up m 361 q v) a = hp g m a := by
  intro a ha
  unfold hp
  by_cases h : a < g.1.heap.size
  · rw [if_pos h, if_pos h]
  · rw [if_neg h, if_neg h]
    have hne : ¬ a - g.1.heap.size = m.2.1 := fun z => ha (by unfold ad; omega)
    have e : cellAt g (up m 361 q v) (a - g.1.heap.size) = cellAt g m (a - g.1.heap.size) := by
      by_cases h1 : a - g.1.heap.size = 361
      · exact (cell_none (Or.inl h1)).trans (cell_none (Or.inl h1)).symm
      · exact cellAt_congr (up_cell m q v h1) rfl
    rw [e]
    cases cellAt g m (a - g.1.heap.size) with
    | some x => rfl
    | none =>
      dsimp only
      rw [if_neg hne, if_neg (show ¬ a - g.1.heap.size = (up m 361 q v).2.1 from hne)]
theorem nar_b : ∀ c, c < 128 → vp_nar .byte (nI c) = nI c := by
  have h : ∀ c : Fin 128, (nI c.1).toInt8.toInt32 = nI c.1 := by decide +kernel
  intro c hc
  rw [vp_nar_byte]
  exact h ⟨c, hc⟩
theorem i8_b : ∀ c, c < 128 → (nI c).toInt8.toInt32 = nI c := by
  intro c hc
  rw [← vp_nar_byte]
  exact nar_b c hc
theorem fits_b : ∀ c, c < 128 → fits .byte (.int (nI c)) = true := by
  have h : ∀ c : Fin 128, fits .byte (.int (nI c.1)) = true := by decide +kernel
  intro c hc
  exact h ⟨c, hc⟩
section VSB
variable {g : xG} {B : BT} {k n0 : Nat} {Q : State → Prop} {h : xH} {m : Mem} {sz pc : Nat} {ls : List (Option Value)} {st : List Value} {cc : ByteArray} {nL : Nat} {own : String} {ret : Option FieldType} {d mc ms : Nat}
theorem V.bound (hB : Bd g B cc nL own ret d mc ms) {a : Nat} {e : va_E} (he : h a = some e) (kk : a < sz → g.1.heap.size ≤ sz → V g B k n0 Q h sz pc ls st) : V g B k n0 Q h sz pc ls st := by
  obtain ⟨p, l, e9, R, s, m, args, below, meth, c⟩ := B
  intro H locs A hz hl0
  have h1 := (hz.2.2.2.1 a e he).2.lt
  have h2 : a < H.size := h1
  rw [hz.1] at h2
  exact kk h2 hz.2.1 H locs A hz hl0
theorem V.ldcI (hB : Bd g B cc nL own ret d mc ms) {idx : Nat} {v : Int32} (hc : WD (.constant own idx v)) (hd : decode cc pc = .ok (.ldc idx, 2)) (kk : V g B k n0 Q h sz (pc + 2) ls (.int v :: st)) : V g B k n0 Q h sz pc ls st := by
  obtain ⟨p, l, e, R, s, m, args, below, meth, c⟩ := B
  obtain ⟨hx1, hb, hml, hown, hr, hlk, hG, hW, hR, hfl⟩ := hB
  intro H locs A hz hl0
  exact lv_ldc hx1 hb hown (hc.of hG args hW) hd (kk H locs A hz hl0)
theorem V.bastSB (hB : Bd g B cc nL own ret d mc ms) {i x : Int32} {q : Nat} (hd : decode cc pc = .ok (.bastore, 1)) (hn : cellAt g m m.2.1 = none) (hi : ix i q m.2.2) (hx : vp_nar .byte x = x) (kk : V g B k n0 Q (hp g (up m 361 q x)) sz (pc + 1) ls st) : V g B k n0 Q (hp g m) sz pc ls (.int x :: .int i :: .ref (ad g m.2.1) :: st) := by
  refine V.bast hB hd (hp_sb hn) hi.2 (h' := hp g (up m 361 q x)) ?_ hp_sbup kk
  have hn2 : cellAt g (up m 361 q x) (up m 361 q x).2.1 = none := by
    by_cases h1 : m.2.1 = 361
    · show cellAt g (up m 361 q x) m.2.1 = none
      rw [h1]; rfl
    · exact (cellAt_congr (up_cell m q x h1) rfl).trans hn
  have h2 := hp_sb hn2
  rw [up_row] at h2
  rw [hi.1, hx]
  exact h2
end VSB
theorem wk_J8_200 : WD (.constant RJ8 200 2147483639) := WD.at 1004 (by decide +kernel) rfl
theorem wk_J5_39 : WD (.constant RJ5 39 2147483647) := WD.at 1008 (by decide +kernel) rfl
theorem maxN {a b : Nat} (ha : a ≤ 100000) (hb : b ≤ 100000) : (if nI a < nI b then nI b else nI a) = nI (max a b) := by
  by_cases h : a < b
  · rw [if_pos (nI_lt h (by omega)), Nat.max_eq_right (by omega)]
  · rw [if_neg (nI_nlt (by omega) (by omega)), Nat.max_eq_left (by omega)]
theorem minN {a b : Nat} (ha : a ≤ 100000) (hb : b ≤ 100000) : (if nI b < nI a then nI b else nI a) = nI (min a b) := by
  by_cases h : b < a
  · rw [if_pos (nI_lt h (by omega)), Nat.min_eq_right (by omega)]
  · rw [if_neg (nI_nlt (by omega) (by omega)), Nat.min_eq_left (by omega)]
theorem nI_subN {a b : Nat} (h : b ≤ a) : nI a - nI b = nI (a - b) := pk_sub h
/-- Math.min over any picture -/
theorem t_min {g : xG} (hG : GK g) {x y : Int32} {h : xH} {sz : Nat} : Ct g yJ9_min_7cf53 (.code yJ9_min_7cf53 cJ9_min_7cf53 2 (some .int)) 1 0 0 [.int x, .int y] h sz (fun r h' sz' => r = some (.int (if y < x then y else x)) ∧ h' = h ∧ sz' = sz) (fun _ _ _ => False) := by
  refine Ct.mk hG RJ9 rfl (by decide +kernel) rfl (Nat.le_of_ble_eq_true rfl) (fun B hB hX _ => ?_)
  show V g B 0 0 _ h sz 0 [some (.int x), some (.int y)] []
  refine V.iload_n (pc := 0) hB dJ9_min_7cf53_0 rfl ?_
  refine V.iload_n (pc := 1) hB dJ9_min_7cf53_1 rfl ?_
  refine V.icmp_gt (pc := 2) (tgt := 9) hB dJ9_min_7cf53_2 (by decide) (fun c_2 => ?_) (fun c_2 => ?_)
  · have hv : (if y < x then y else x) = y := if_pos c_2
    refine V.iload_n (pc := 9) hB dJ9_min_7cf53_9 rfl ?_
    refine V.iret (pc := 10) hB dJ9_min_7cf53_10 rfl ?_
    exact ⟨by rw [hv], rfl, rfl⟩
  · have hv : (if y < x then y else x) = x := if_neg c_2
    refine V.iload_n (pc := 5) hB dJ9_min_7cf53_5 rfl ?_
    refine V.goto (pc := 6) (tgt := 10) hB dJ9_min_7cf53_6 (by decide) ?_
    refine V.iret (pc := 10) hB dJ9_min_7cf53_10 rfl ?_
    exact ⟨by rw [hv], rfl, rfl⟩

set_option maxRecDepth 100000 in
set_option maxHeartbeats 1000000 in
theorem c_J8_newLength_cabcc {g : xG} (hG : GK g) {a b c : Nat} (ha : a ≤ 1000) (hb : b ≤ 1000) (hc : c ≤ 1000) (h0 : 0 < c) {m : Mem} : CC g yJ8_newLength_cabcc (.code yJ8_newLength_cabcc cJ8_newLength_cabcc 4 (some .int)) 2 0 0 [.int (nI a), .int (nI b), .int (nI c)] m (rI (fun v m2 => v = nI (a + max b c) ∧ m2 = m)) noX := by
  refine CC.mk hG RJ8 rfl (by decide +kernel) rfl (Nat.le_of_ble_eq_true rfl) (fun sz B hB hX => ?_)
  show V g B 0 0 _ (hp g m) sz 0 [some (.int (nI a)), some (.int (nI b)), some (.int (nI c)), none] []
  refine V.iload_n (pc := 0) hB dJ8_newLength_cabcc_0 rfl ?_
  refine V.iload_n (pc := 1) hB dJ8_newLength_cabcc_1 rfl ?_
  refine V.iload_n (pc := 2) hB dJ8_newLength_cabcc_2 rfl ?_
  refine V.cs (pc := 3) hB cw_J9_max_7cf53 wm_J8_194 wst_J9_max_7cf53 dJ8_newLength_cabcc_3 (c_J9_max_7cf53 hG) (by omega) (by decide) rfl (by exact Nat.le_of_ble_eq_true rfl) (by omega) (by omega) kN (kI (fun v_3 m_3 sz h_3 => ?_)) rfl
  obtain ⟨rfl, hm_3⟩ := h_3
  obtain rfl := hm_3.symm
  rw [maxN (by omega) (by omega)]
  refine V.iadd (pc := 6) hB dJ8_newLength_cabcc_6 ?_
  rw [nI_add]
  refine V.istore_n (pc := 7) hB dJ8_newLength_cabcc_7 (by decide) rfl ?_
  refine V.iconst (pc := 8) (v := 0) hB dJ8_newLength_cabcc_8 rfl ?_
  refine V.iload_n (pc := 9) hB dJ8_newLength_cabcc_9 rfl ?_
  refine V.icmp_ge (pc := 10) (tgt := 21) hB dJ8_newLength_cabcc_10 (by decide) (fun c_10 => ?_) (fun c_10 => ?_)
  · exact absurd ((nI_leI (b := 0) (by omega) (by decide)).mp c_10) (by omega)
  · refine V.iload_n (pc := 13) hB dJ8_newLength_cabcc_13 rfl ?_
    refine V.ldcI (pc := 14) (v := 2147483639) hB wk_J8_200 dJ8_newLength_cabcc_14 ?_
    refine V.icmp_gt (pc := 16) (tgt := 21) hB dJ8_newLength_cabcc_16 (by decide) (fun c_16 => ?_) (fun c_16 => ?_)
    · exact absurd c_16 (nI_nlt (a := 2147483639) (b := a + max b c) (by omega) (by decide))
    · refine V.iload_n (pc := 19) hB dJ8_newLength_cabcc_19 rfl ?_
      refine V.retI (pc := 20) hB dJ8_newLength_cabcc_20 rfl (rfl) (by omega) (by omega) ?_
      exact ⟨rfl, rfl⟩
