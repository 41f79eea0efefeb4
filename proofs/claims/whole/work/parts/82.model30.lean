/-! the reference reads the whole text -/
theorem cmds_none {T : Nat → Int32} {N f p : Nat} {acc : CS} (hk : (khS T N p 7).2 = -1) : cmdsS T N (f + 1) p acc = (false, (khS T N p 7).1, acc) := by
  have hn := kh_none hk
  clear hk
  generalize khS T N p 7 = K at hn ⊢
  rcases hn with ⟨h7, hpp⟩ | ⟨h7, hfo⟩
  · rw [hpp]
    exact if_pos h7
  · rw [cmds_step h7 hfo]
    exact if_neg Bool.false_ne_true
def vcn : List Int32 → Nat
  | [] => 0
  | c :: l => (if c = 68 ∨ c = 78 ∨ c = 84 then 1 else 0) + vcn l
theorem part_len {T : Nat → Int32} {N : Nat} {c : Int32} {s : PS} : (partS T N c s).2.2.length = s.2.length + (if c = 68 ∨ c = 78 ∨ c = 84 then 1 else 0) := by
  have q : ∀ (most : Nat) (fac : Int32) (s : PS), (numS T N most fac s).2.2.length = s.2.length + 1 := fun most fac s => by
    show (s.2 ++ [_]).length = _
    rw [List.length_append]
    rfl
  unfold partS
  by_cases h1 : c = 68
  · rw [if_pos h1, if_pos (Or.inl h1)]; exact q 1 1 s
  rw [if_neg h1]
  by_cases h2 : c = 78
  · rw [if_pos h2, if_pos (Or.inr (Or.inl h2))]; exact q 3 1 s
  rw [if_neg h2]
  by_cases h3 : c = 84
  · rw [if_pos h3, if_pos (Or.inr (Or.inr h3))]
    split
    · exact q 3 (-1) _
    · exact q 3 1 s
  rw [if_neg h3, if_neg (fun h => h.elim h1 (fun h => h.elim h2 h3))]
  unfold sgnS
  split <;> rfl
theorem form_len {T : Nat → Int32} {N : Nat} : ∀ (l : List Int32) (s : PS), (formS T N l s).1 = true → (formS T N l s).2.2.length = s.2.length + vcn l
  | [], s, _ => rfl
  | c :: l, s, h => by
    have e : formS T N (c :: l) s = if (partS T N c s).1 = true then formS T N l (partS T N c s).2 else (false, (partS T N c s).2) := rfl
    by_cases hb : (partS T N c s).1 = true
    · rw [if_pos hb] at e
      rw [e] at h
      rw [e, form_len l _ h, part_len]
      show _ = s.2.length + ((if c = 68 ∨ c = 78 ∨ c = 84 then 1 else 0) + vcn l)
      omega
    · rw [if_neg hb] at e
      rw [e] at h
      exact Bool.noConfusion h
def ar (k : Nat) : Nat := vcn (prt k)
theorem ar_le {k : Nat} (h : k < 7) : ar k ≤ 3 := by
  rcases (by omega : k = 0 ∨ k = 1 ∨ k = 2 ∨ k = 3 ∨ k = 4 ∨ k = 5 ∨ k = 6) with rfl | rfl | rfl | rfl | rfl | rfl | rfl <;> decide
theorem prt_pos {k : Nat} (h : k < 7) : 1 ≤ (prt k).length := by
  rcases (by omega : k = 0 ∨ k = 1 ∨ k = 2 ∨ k = 3 ∨ k = 4 ∨ k = 5 ∨ k = 6) with rfl | rfl | rfl | rfl | rfl | rfl | rfl <;> decide
def rdFr (m m2 : Mem) : Prop := m2.2 = m.2 ∧ (∀ y, y ≠ 363 → y ≠ 372 → m2.1 y = m.1 y) ∧ (∀ f, f ≠ 12 → f ≠ 16 → f ≠ 17 → f ≠ 18 → f ≠ 19 → m2.1 363 f = m.1 363 f) ∧ m2.1 363 12 = 0
/-- the commands read stand in the row of numbers -/
def NumOK (acc : CS) (m : Mem) : Prop := ∀ i, i < acc.length → m.1 372 (4 * i) = nI (acc.getD i (0, [])).1 ∧ (acc.getD i (0, [])).1 < 7 ∧ (acc.getD i (0, [])).2.length = ar (acc.getD i (0, [])).1 ∧ ∀ j, j < (acc.getD i (0, [])).2.length → m.1 372 (4 * i + 1 + j) = (acc.getD i (0, [])).2.getD j 0
def rdEnd (R : Bool × Nat × CS) (m m2 : Mem) : Prop := rdFr m m2 ∧ ((R.1 = true ∧ m2.1 363 18 = -1 ∧ m2.1 363 19 = nI R.2.2.length ∧ R.2.2.length ≤ 12 ∧ NumOK R.2.2 m2) ∨ (R.1 = false ∧ m2.1 363 18 = nI R.2.1 ∧ R.2.1 ≤ 60))
def RA (m m1 : Mem) (N t : Nat) (acc : CS) : Prop := rdFr m m1 ∧ m1.1 363 16 = nI N ∧ m1.1 363 19 = nI t ∧ acc.length = t ∧ NumOK acc m1
theorem rdFr.rd {m m1 : Mem} (h : rdFr m m1) (p : Nat) (w : Int32) : rdFr m (rdM m1 p w) :=
  ⟨h.1, fun y a b => (congrFun rfl _).trans ((rdM_k m1 p w a).symm ▸ h.2.1 y a b), fun f a b c d e => (rdM_o m1 p w c d).trans (h.2.2.1 f a b c d e), (rdM_o m1 p w (by decide) (by decide)).trans h.2.2.2⟩
theorem NumOK.rd {acc : CS} {m1 : Mem} (h : NumOK acc m1) (p : Nat) (w : Int32) : NumOK acc (rdM m1 p w) := by
  unfold NumOK
  rw [rdM_k m1 p w (show 372 ≠ 363 by decide)]
  exact h
theorem RQ.fr {m m1 m2 : Mem} {t : Nat} {l : List Int32} (h : rdFr m m1) (hq : RQ m1 m2 t l) : rdFr m m2 :=
  ⟨hq.1.trans h.1, fun y a b => (hq.2.1 y a b).trans (h.2.1 y a b), fun f a b c d e => (hq.2.2.1 f c d e).trans (h.2.2.1 f a b c d e), (hq.2.2.1 12 (by decide) (by decide) (by decide)).trans h.2.2.2⟩
theorem getD_snoc_lt {l : CS} {x : Nat × List Int32} {j : Nat} (h : j < l.length) : (l ++ [x]).getD j (0, []) = l.getD j (0, []) := by simp [List.getD, List.getElem?_append_left h]
theorem getD_snoc_eq {l : CS} {x : Nat × List Int32} : (l ++ [x]).getD l.length (0, []) = x := by simp [List.getD]
theorem RA.next {m m1 m3 : Mem} {N t k : Nat} {acc : CS} {l : List Int32} (h : RA m m1 N t acc) (hq : RQ m1 m3 t (nI k :: l)) (hk : k < 7) (hl : l.length = ar k) : RA m m3 N (t + 1) (acc ++ [(k, l)]) := by
  obtain ⟨h1, h2, h3, h4, h5⟩ := h
  refine ⟨hq.fr h1, (hq.2.2.1 16 (by decide) (by decide) (by decide)).trans h2, hq.2.2.2.1, by rw [List.length_append, h4]; rfl, fun i hi => ?_⟩
  have hi2 : i < acc.length + 1 := by rw [List.length_append] at hi; exact hi
  by_cases e : i = acc.length
  · subst e
    rw [getD_snoc_eq]
    rw [← h4] at hq
    refine ⟨hq.2.2.2.2.2 0 (by show 0 < l.length + 1; omega), hk, hl, fun j hj => ?_⟩
    have := hq.2.2.2.2.2 (j + 1) (by show j + 1 < l.length + 1; exact Nat.succ_lt_succ hj)
    rw [show 4 * acc.length + 1 + j = 4 * acc.length + (j + 1) by omega]
    exact this
  · have hil : i < acc.length := by omega
    rw [getD_snoc_lt hil]
    obtain ⟨n1, n2, n3, n4⟩ := h5 i hil
    have hr := hq.2.2.2.2.1
    refine ⟨(hr _ (by omega)).trans n1, n2, n3, fun j hj => ?_⟩
    have := ar_le n2
    exact (hr _ (by omega)).trans (n4 j hj)
def cmdP (m1 : Mem) (N p t : Nat) (m2 : Mem) : Prop := ((khS (m1.1 370) N p 7).2 = -1 ∧ ∃ m3, m2 = rdM m3 p (nI (khS (m1.1 370) N p 7).1) ∧ RQ m1 m3 t [-1]) ∨ ∃ k, k < 7 ∧ (khS (m1.1 370) N p 7).2 = nI k ∧ mtC (m1.1 370) N p (stO k) (wlO k) 0 = wlO k ∧ ∃ m3, m2 = rdM m3 (rdS (m1.1 370) N (prt k) (p + wlO k, -1, [])).1 (rdS (m1.1 370) N (prt k) (p + wlO k, -1, [])).2.1 ∧ RQ m1 m3 t (nI k :: (rdS (m1.1 370) N (prt k) (p + wlO k, -1, [])).2.2)

set_option maxRecDepth 100000 in
set_option maxHeartbeats 1000000 in
theorem c_X10_readsAll {g : xG} (hG : GK g) {z : xE} (hE : GE g z) {m : Mem} {N : Nat} (h12 : m.1 363 12 = nI N) (hN : N ≤ 60) {R : Bool × Nat × CS} (hR : cmdsS (m.1 370) N 12 0 [] = R) : CC g yX10_readsAll (.code yX10_readsAll cX10_readsAll 1 none) 8 0 0 [.ref (ad g 363)] m (rV (fun m2 => rdEnd R m m2)) noX := by
  refine CC.mk hG RX10 rfl (by decide +kernel) rfl (Nat.le_of_ble_eq_true rfl) (fun sz B hB hX => ?_)
  show V g B 0 0 _ (hp g m) sz 0 [some (.ref (ad g 363))] []
  have eno : ∀ (m1 : Mem) (p : Nat) (w : Int32), ¬ w = -1 → rdEnd R m (rdM m1 p w) → ∀ (sz : Nat), V g B 0 0 (QM g B 0 0 (rV (fun m2 => rdEnd R m m2)) noX) (hp g ((rdM m1 p w))) sz 32 [some (.ref (ad g 363))] [] := by
    intro m1 p w hw hP sz
    refine V.aload_n (pc := 32) hB dX10_readsAll_32 rfl ?_
    refine V.get (pc := 33) hB fk_Model 18 wf_X10_197 dX10_readsAll_33 (by decide) (hp_at (ca_Model _)) rfl ?_
    rw [rdM_18]
    refine V.iconst (pc := 36) (v := (-1)) hB dX10_readsAll_36 rfl ?_
    refine V.icmp_ne (pc := 37) (tgt := 72) hB dX10_readsAll_37 (by decide) (fun c_37 => ?_) (fun c_37 => ?_)
    · refine V.retV (pc := 72) hB dX10_readsAll_72 rfl (by omega) (by omega) ?_
      exact hP
    · exact absurd c_37 hw
  have e57a : ∀ (m1 : Mem) (p : Nat) (w : Int32), ¬ w = -1 → rdEnd R m (rdM m1 p w) → ∀ (sz : Nat), V g B 0 0 (QM g B 0 0 (rV (fun m2 => rdEnd R m m2)) noX) (hp g ((rdM m1 p w))) sz 57 [some (.ref (ad g 363))] [] := by
    intro m1 p w hw hP sz
    refine V.aload_n (pc := 57) hB dX10_readsAll_57 rfl ?_
    refine V.get (pc := 58) hB fk_Model 18 wf_X10_197 dX10_readsAll_58 (by decide) (hp_at (ca_Model _)) rfl ?_
    rw [rdM_18]
    refine V.iconst (pc := 61) (v := (-1)) hB dX10_readsAll_61 rfl ?_
    refine V.icmp_ne (pc := 62) (tgt := 32) hB dX10_readsAll_62 (by decide) (fun c_62 => ?_) (fun c_62 => ?_)
    · exact eno m1 p w hw hP sz
    · exact absurd c_62 hw
  have e57b : ∀ (m1 : Mem) (p t : Nat), m1.1 363 16 = nI N → p ≤ N → m1.1 363 19 = nI t → t < 30 → (∀ m2 : Mem, cmdP m1 N p t m2 → ∀ (sz : Nat), V g B 0 0 (QM g B 0 0 (rV (fun m2 => rdEnd R m m2)) noX) (hp g (m2)) sz 32 [some (.ref (ad g 363))] []) → ∀ (sz : Nat), V g B 0 0 (QM g B 0 0 (rV (fun m2 => rdEnd R m m2)) noX) (hp g ((rdM m1 p (-1)))) sz 57 [some (.ref (ad g 363))] [] := by
    intro m1 p t h16 hp h19 ht h3 sz
    refine V.aload_n (pc := 57) hB dX10_readsAll_57 rfl ?_
    refine V.get (pc := 58) hB fk_Model 18 wf_X10_197 dX10_readsAll_58 (by decide) (hp_at (ca_Model _)) rfl ?_
    rw [rdM_18]
    refine V.iconst (pc := 61) (v := (-1)) hB dX10_readsAll_61 rfl ?_
    refine V.icmp_ne (pc := 62) (tgt := 32) hB dX10_readsAll_62 (by decide) (fun c_62 => ?_) (fun c_62 => ?_)
    · exact absurd rfl c_62
    · refine V.aload_n (pc := 65) hB dX10_readsAll_65 rfl ?_
      refine V.cv (pc := 66) hB cw_X10_readsCommand wm_X10_235 wi_X10_readsCommand ws_X10_readsCommand dX10_readsAll_66 (c_X10_readsCommand hG hE (m := m1) (p := p) (t := t) h16 hN hp h19 ht) (hp_at (ca_Model _)) fk_Model rfl (by omega) (by decide) rfl (by exact Nat.le_of_ble_eq_true rfl) (by omega) (by omega) kN (kV (fun m_66 sz h_66 => ?_)) rfl
      refine V.goto (pc := 69) (tgt := 32) hB dX10_readsAll_69 (by decide) ?_
      exact h3 m_66 h_66 sz
  have ego : ∀ (p t : Nat) (m1 : Mem), p ≤ N → t < 30 → m1.1 363 16 = nI N → m1.1 363 19 = nI t → m1.1 370 = m.1 370 → (N ≤ p → rdEnd R m (rdM m1 p (-1))) → (p < N → stB (m.1 370) N p 59 = false → rdEnd R m (rdM m1 p (nI p))) → (p < N → stB (m.1 370) N p 59 = true → ∀ m2 : Mem, cmdP m1 N (p + 1) t m2 → ∀ (sz : Nat), V g B 0 0 (QM g B 0 0 (rV (fun m2 => rdEnd R m m2)) noX) (hp g (m2)) sz 32 [some (.ref (ad g 363))] []) → ∀ (sz : Nat), V g B 0 0 (QM g B 0 0 (rV (fun m2 => rdEnd R m m2)) noX) (hp g ((rdM m1 p (-1)))) sz 32 [some (.ref (ad g 363))] [] := by
    intro p t m1 hp ht h16 h19 hT h1 h2 h3 sz
    refine V.aload_n (pc := 32) hB dX10_readsAll_32 rfl ?_
    refine V.get (pc := 33) hB fk_Model 18 wf_X10_197 dX10_readsAll_33 (by decide) (hp_at (ca_Model _)) rfl ?_
    rw [rdM_18]
    refine V.iconst (pc := 36) (v := (-1)) hB dX10_readsAll_36 rfl ?_
    refine V.icmp_ne (pc := 37) (tgt := 72) hB dX10_readsAll_37 (by decide) (fun c_37 => ?_) (fun c_37 => ?_)
    · exact absurd rfl c_37
    · refine V.aload_n (pc := 40) hB dX10_readsAll_40 rfl ?_
      refine V.get (pc := 41) hB fk_Model 17 wf_X10_191 dX10_readsAll_41 (by decide) (hp_at (ca_Model _)) rfl ?_
      rw [rdM_17]
      refine V.aload_n (pc := 44) hB dX10_readsAll_44 rfl ?_
      refine V.get (pc := 45) hB fk_Model 16 wf_X10_194 dX10_readsAll_45 (by decide) (hp_at (ca_Model _)) rfl ?_
      rw [rdM_o _ _ _ (by decide) (by decide), h16]
      refine V.icmp_ge (pc := 48) (tgt := 72) hB dX10_readsAll_48 (by decide) (fun c_48 => ?_) (fun c_48 => ?_)
      · refine V.retV (pc := 72) hB dX10_readsAll_72 rfl (by omega) (by omega) ?_
        exact h1 ((nI_leI (by omega) (by omega)).mp c_48)
      · have hlt : p < N := Nat.not_le.mp (fun z => c_48 ((nI_leI (by omega) (by omega)).mpr z))
        refine V.aload_n (pc := 51) hB dX10_readsAll_51 rfl ?_
        refine V.bipush (pc := 52) (v := 59) hB dX10_readsAll_52 rfl ?_
        refine V.cv (pc := 54) hB cw_X10_sign wm_X10_232 wi_X10_sign ws_X10_sign dX10_readsAll_54 (c_X10_sign hG (m := m1) (p := p) (w := -1) h16 hN (by omega) (c := 59) (by decide)) (hp_at (ca_Model _)) fk_Model rfl (by omega) (by decide) rfl (by exact Nat.le_of_ble_eq_true rfl) (by omega) (by omega) kN (kV (fun m_54 sz h_54 => ?_)) rfl
        subst h_54
        rw [hT]
        cases hb : stB (m.1 370) N p 59
        · rw [show rdP (m.1 370) N p 59 59 (-1) = p from if_neg (fun z => by rw [rdB_st, hb] at z; exact Bool.noConfusion z.2), show rdW (m.1 370) N p 59 59 (-1) = nI p from (if_pos rfl).trans (if_neg (by rw [rdB_st, hb]; decide))]
          exact e57a m1 p _ (nIk_ne (by omega)) (h2 hlt hb) sz
        · rw [show rdP (m.1 370) N p 59 59 (-1) = p + 1 from if_pos ⟨rfl, rdB_st.trans hb⟩, show rdW (m.1 370) N p 59 59 (-1) = -1 from (if_pos rfl).trans (if_pos (rdB_st.trans hb))]
          exact e57b m1 (p + 1) t h16 (by omega) h19 ht (h3 hlt hb) sz
  refine V.aload_n (pc := 0) hB dX10_readsAll_0 rfl ?_
  refine V.aload_n (pc := 1) hB dX10_readsAll_1 rfl ?_
  refine V.get (pc := 2) hB fk_Model 12 wf_X10_188 dX10_readsAll_2 (by decide) (hp_at (ca_Model _)) rfl ?_
  rw [h12]
  refine V.p_Model_f16 (pc := 5) hB wf_X10_194 dX10_readsAll_5 ?_
  refine V.aload_n (pc := 8) hB dX10_readsAll_8 rfl ?_
  refine V.iconst (pc := 9) (v := 0) hB dX10_readsAll_9 rfl ?_
  refine V.p_Model_f12 (pc := 10) hB wf_X10_188 dX10_readsAll_10 ?_
  refine V.aload_n (pc := 13) hB dX10_readsAll_13 rfl ?_
  refine V.iconst (pc := 14) (v := 0) hB dX10_readsAll_14 rfl ?_
  refine V.p_Model_f17 (pc := 15) hB wf_X10_191 dX10_readsAll_15 ?_
  refine V.aload_n (pc := 18) hB dX10_readsAll_18 rfl ?_
  refine V.iconst (pc := 19) (v := (-1)) hB dX10_readsAll_19 rfl ?_
  refine V.p_Model_f18 (pc := 20) hB wf_X10_197 dX10_readsAll_20 ?_
  refine V.aload_n (pc := 23) hB dX10_readsAll_23 rfl ?_
  refine V.iconst (pc := 24) (v := 0) hB dX10_readsAll_24 rfl ?_
  refine V.p_Model_f19 (pc := 25) hB wf_X10_223 dX10_readsAll_25 ?_
  show V g B 0 0 _ (hp g (up (rdM (up (up m 363 16 (nI N)) 363 12 0) 0 (-1)) 363 19 0)) sz 28 _ _
  rw [rdM_slot _ _ _ _ (by decide) (by decide)]
  have hA : RA m (up (up (up m 363 16 (nI N)) 363 12 0) 363 19 0) N 0 [] := by
    refine ⟨⟨rfl, fun y a b => ?_, fun f a b c d e => ?_, ?_⟩, ?_, ?_, rfl, fun i hi => absurd hi (by show ¬ i < 0; omega)⟩
    · rw [up_cell _ _ _ a, up_cell _ _ _ a, up_cell _ _ _ a]
    · rw [up_slot _ _ _ e, up_slot _ _ _ a, up_slot _ _ _ b]
    · rw [up_slot _ _ _ (by decide), up_same]
    · rw [up_slot _ _ _ (by decide), up_slot _ _ _ (by decide), up_same]
    · rw [up_same]; rfl
  refine V.aload_n (pc := 28) hB dX10_readsAll_28 rfl ?_
  refine V.cv (pc := 29) hB cw_X10_readsCommand wm_X10_235 wi_X10_readsCommand ws_X10_readsCommand dX10_readsAll_29 (c_X10_readsCommand hG hE (m := (up (up (up m 363 16 (nI N)) 363 12 0) 363 19 0)) (p := 0) (t := 0) hA.2.1 hN (by omega) hA.2.2.1 (by decide)) (hp_at (ca_Model _)) fk_Model rfl (by omega) (by decide) rfl (by exact Nat.le_of_ble_eq_true rfl) (by omega) (by omega) kN (kV (fun m_29 sz h_29 => ?_)) rfl
  have lp : ∀ (f t p : Nat) (acc : CS) (m1 m2 : Mem), t + f = 12 → 6 * t ≤ p → p ≤ N → RA m m1 N t acc → cmdsS (m.1 370) N f p acc = R → cmdP m1 N p t m2 → ∀ (sz : Nat), V g B 0 0 (QM g B 0 0 (rV (fun m2 => rdEnd R m m2)) noX) (hp g (m2)) sz 32 [some (.ref (ad g 363))] [] := by
    intro f
    induction f with
    | zero => intro t p acc m1 m2 hf h6 hpN _ _ _ sz; omega
    | succ f ih =>
      intro t p acc m1 m2 hf h6 hpN hA hRe hC sz
      have hT := hA.1.2.1 370 (by decide) (by decide)
      unfold cmdP at hC
      rw [hT] at hC
      rcases hC with ⟨hk, m3, hm, hq⟩ | ⟨k, hk, hks, hmt, m3, hm, hq⟩
      · have hfar := khS_in (T := m.1 370) hpN 7
        have hfr := hq.fr hA.1
        have e := cmds_none (f := f) (acc := acc) hk
        rw [hRe] at e
        have e1 : R.1 = false := by rw [e]
        have e2 : R.2.1 = (khS (m.1 370) N p 7).1 := by rw [e]
        rw [hm]
        exact eno m3 p (nI (khS (m.1 370) N p 7).1) (nIk_ne (by omega)) ⟨hfr.rd _ _, Or.inr ⟨e1, by rw [rdM_18, e2], by omega⟩⟩ sz
      · obtain ⟨hko, hfo⟩ := kh_some hk hmt
        have hmN := mtC_N (T := m.1 370) (N := N) (p := p) (o := stO k) (wlO k) 0 hpN
        rw [hmt] at hmN
        obtain ⟨r1, r2⟩ := form_rd (T := m.1 370) hN (prt k) (p + wlO k) [] hmN
        obtain ⟨d1, d2⟩ := formS_adv (T := m.1 370) (prt k) (p + wlO k, []) hmN
        have hw4 := (wd_frm hk).2.2.1
        have hp1 := prt_pos hk
        obtain ⟨r, hr⟩ : ∃ r, r = formS (m.1 370) N (prt k) (p + wlO k, []) := ⟨_, rfl⟩
        rw [← hr] at r1 r2 d1 d2 hfo
        have hst := cmds_step (f := f) (acc := acc) (by rw [hko]; exact hk) (r := r) (by rw [hko]; exact hfo)
        rw [hRe, hko] at hst
        cases hb : r.1
        · rw [if_neg (by rw [hb]; decide)] at hst
          have hw := r2 hb
          rw [hm]
          refine eno m3 _ _ (by rw [hw]; exact nIk_ne (by omega)) ⟨(hq.fr hA.1).rd _ _, Or.inr ⟨by rw [hst], by rw [rdM_18, hw, hst], by rw [hst]; show r.2.1 ≤ 60; omega⟩⟩ sz
        · rw [if_pos hb] at hst
          have hl : r.2.2.length = ar k := by
            rw [hr] at hb ⊢
            rw [form_len _ _ hb]
            exact Nat.zero_add _
          rw [r1 hb] at hm hq
          have hA2 := hA.next hq hk hl
          have ha := d1 hb
          rw [hm]
          have hpl : r.2.1 ≤ N := d2
          have hadv : 6 * (t + 1) ≤ r.2.1 + 1 := by have ha2 : p + wlO k + (prt k).length ≤ r.2.1 := ha; omega
          refine ego r.2.1 (t + 1) m3 hpl (by omega) hA2.2.1 hA2.2.2.1 (hA2.1.2.1 370 (by decide) (by decide)) (fun hNp => ?_) (fun hNp hs => ?_) (fun hNp hs m4 hC4 sz => ?_) sz
          · rw [if_pos hNp] at hst
            refine ⟨hA2.1.rd _ _, Or.inl ⟨by rw [hst], rdM_18 _ _ _, ?_, ?_, ?_⟩⟩
            · rw [rdM_o _ _ _ (by decide) (by decide), hA2.2.2.1, hst, ← hA2.2.2.2.1]
            · rw [hst]; show (acc ++ [(k, r.2.2)]).length ≤ 12; rw [hA2.2.2.2.1]; omega
            · rw [hst]; exact hA2.2.2.2.2.rd _ _
          · rw [if_neg (by omega), if_neg (by rw [hs]; decide)] at hst
            exact ⟨hA2.1.rd _ _, Or.inr ⟨by rw [hst], by rw [rdM_18, hst], by rw [hst]; show r.2.1 ≤ 60; omega⟩⟩
          · rw [if_neg (by omega), if_pos hs] at hst
            exact ih (t + 1) (r.2.1 + 1) (acc ++ [(k, r.2.2)]) m3 m4 (by omega) hadv (by omega) hA2 hst.symm hC4 sz
  exact lp 12 0 0 [] _ m_29 rfl (by omega) (by omega) hA hR h_29 sz
