/-! each call of both: append, the line, run -/
def inC (c : Int32) : Prop := 32 ≤ c ∧ c ≤ 126
def WAp (m : Mem) (c v : Int32) (mA : Mem) : Prop := (inC c ∧ tN m < 60 ∧ v = 0 ∧ mA = up (up (up m 334 (tN m) c) 333 1 (nI (tN m + 1))) 373 0 (nI (tN m + 1))) ∨ (((¬ inC c ∧ v = 1) ∨ (inC c ∧ tN m = 60 ∧ v = 2)) ∧ mA = m)
theorem JT.app {m m2 : Mem} {c : Int32} (h : JT m) (h60 : tN m < 60) (h2 : m2.2 = m.2) (h0 : m2.1 0 = m.1 0) (h333 : m2.1 333 1 = nI (tN m + 1) ∧ m2.1 333 2 = m.1 333 2) (h334 : m2.1 334 = upd (m.1 334) (tN m) c) (h370 : m2.1 370 = upd (m.1 370) (tN m) c) (hk : ∀ k, k = 360 ∨ k = 361 ∨ k = 371 → m2.1 k = m.1 k) (hf : ∀ f, f = 7 ∨ f = 8 ∨ f = 9 ∨ f = 14 → m2.1 363 f = m.1 363 f) (h12 : m2.1 363 12 = nI (tN m + 1)) : JT m2 := by
  obtain ⟨⟨t1, t2, p, t3, t4⟩, _, a3, a4, a5, a6, a7, a8, l, h9, h10, h11, h12', h13⟩ := h
  have etN : tN m2 = tN m + 1 := by
    show (m2.1 333 1).toNatClampNeg = _
    rw [h333.1, nI_clamp (by omega)]
  refine ⟨⟨by rw [etN]; exact h333.1, by omega, p, h333.2.trans t3, t4⟩, by rw [etN]; exact h12, by rw [h370, h334, a3], by rw [hf 7 (by decide), h0]; exact a4, by rw [hf 8 (by decide), h0]; exact a5, by rw [h0, hf 9 (by decide)]; exact a6, by rw [h0]; exact a7, by rw [hf 9 (by decide)]; exact a8, l, ?_, ?_, by rw [hf 14 (by decide)]; exact h11, h12', h13⟩
  · unfold LT SW at h9 ⊢; rw [hk 360 (by decide), hk 361 (by decide), h2]; exact h9
  · unfold LR at h10 ⊢; rw [hk 371 (by decide)]; exact h10
theorem w_append {g : xG} (hG : GK g) {K : Nat} {m : Mem} (hJ : JA K m) {c : Int32} (hch : fits .char (.int c) = true) : CC g yL_append (.codeWith yL_append cL_append 4 (some .int) [(0, 9, 12, 13), (0, 9, 15, 15)]) (2 + 1) 1 6 [.ref (ad g 0), .int c, .ref (ad g 373)] m (rI (WAp m c)) noX := by
  refine (c_L_append hG (c_X9_append hG hJ.2.2.1 hch) (fun E m' h => h.imp (fun q => q.1) (fun q => q.1))).imp (fun r m' hq => ?_) (fun _ _ h => h)
  obtain ⟨v, e, hq⟩ := hq
  refine ⟨v, e, ?_⟩
  rcases hq with ⟨rfl, r0, m1, ⟨hc, h60, rfl, rfl⟩, rfl⟩ | ⟨rfl, hx⟩ | ⟨rfl, hx⟩
  · exact Or.inl ⟨hc, h60, rfl, rfl⟩
  · rcases hx with ⟨_, h, hm⟩ | ⟨z, _⟩
    · exact Or.inr ⟨Or.inl ⟨h, rfl⟩, hm⟩
    · exact absurd z (by decide)
  · rcases hx with ⟨z, _⟩ | ⟨_, h1, h2, hm⟩
    · exact absurd z (by decide)
    · exact Or.inr ⟨Or.inr ⟨h1, h2, rfl⟩, hm⟩
theorem n_append {g : xG} (hG : GK g) {K : Nat} {m mA : Mem} (hJ : JA K m) {c v : Int32} (hw : WAp m c v mA) : CC g yX10_append (.code yX10_append cX10_append 2 (some .int)) 3 0 0 [.ref (ad g 363), .int c] mA (rI (fun b m2 => LOut (K + 400) v b m2)) noX := by
  have e12 : mA.1 363 12 = nI (tN m) := by
    rw [← hJ.2.2.2.1]
    rcases hw with ⟨_, _, _, rfl⟩ | ⟨_, rfl⟩
    · rw [up_cell _ _ _ (by decide), up_cell _ _ _ (by decide), up_cell _ _ _ (by decide)]
    · rfl
  refine (c_X10_append hG e12 hJ.2.2.1.2.1).imp (fun r m' hq => ?_) (fun _ _ h => h)
  obtain ⟨b, e, hq⟩ := hq
  refine ⟨b, e, ?_⟩
  rcases hw with ⟨hc, h60, hv, hA⟩ | ⟨hx, hA⟩
  · rcases hq with ⟨_, _, hb, hm⟩ | ⟨_, t, hx, _⟩
    · have ek : ∀ k, k ≠ 333 → k ≠ 334 → k ≠ 363 → k ≠ 370 → k ≠ 373 → m'.1 k = m.1 k := fun k a b c d e => by
        rw [hm, up_cell _ _ _ c, up_cell _ _ _ d, up_cell _ _ _ c, hA, up_cell _ _ _ e, up_cell _ _ _ a, up_cell _ _ _ b]
      have ef : ∀ f, f ≠ 12 → f ≠ 15 → m'.1 363 f = m.1 363 f := fun f a b => by
        rw [hm, up_slot _ _ _ a, up_cell _ _ _ (by decide), up_slot _ _ _ b, hA, up_cell _ _ _ (by decide), up_cell _ _ _ (by decide), up_cell _ _ _ (by decide)]
      have eA : ∀ k, k ≠ 363 → k ≠ 370 → m'.1 k = mA.1 k := fun k a b => by
        rw [hm, up_cell _ _ _ a, up_cell _ _ _ b, up_cell _ _ _ a]
      have hJ2 : JS m' m := hJ.1.mem (ek _ (by decide) (by decide) (by decide) (by decide) (by decide)) (ef 6 (by decide) (by decide)) (ef 5 (by decide) (by decide)) (ek _ (by decide) (by decide) (by decide) (by decide) (by decide)) (ek _ (by decide) (by decide) (by decide) (by decide) (by decide))
      have hkk : ∀ k, (k < 31 ∨ (61 ≤ k ∧ k < 333)) → m'.1 k = m.1 k := fun k hk => ek k (by omega) (by omega) (by omega) (by omega) (by omega)
      refine ⟨⟨hJ2.agr hkk, (hJ.2.1.agr hJ.ci hkk).mono (by omega), hJ.2.2.app (c := c) h60 (by rw [hm, hA]; rfl) (ek 0 (by decide) (by decide) (by decide) (by decide) (by decide)) ⟨?_, ?_⟩ ?_ ?_ (fun k hk => ek k (by omega) (by omega) (by omega) (by omega) (by omega)) (fun f hf => ef f (by omega) (by omega)) ?_⟩, ?_, fun _ => ?_⟩
      · rw [eA 333 (by decide) (by decide), hA, up_cell _ _ _ (by decide), up_same]
      · rw [eA 333 (by decide) (by decide), hA, up_cell _ _ _ (by decide), up_slot _ _ _ (by decide), up_cell _ _ _ (by decide)]
      · rw [eA 334 (by decide) (by decide), hA, up_cell _ _ _ (by decide), up_cell _ _ _ (by decide), up_row]
      · rw [hm, up_cell _ _ _ (by decide), up_row, up_cell _ _ _ (by decide), hA, up_cell _ _ _ (by decide), up_cell _ _ _ (by decide), up_cell _ _ _ (by decide)]
      · rw [hm, up_same]
      · rw [hm, up_slot _ _ _ (by decide), up_cell _ _ _ (by decide), up_same, hv]
      · rw [eA 373 (by decide) (by decide), hA, up_same, hb]
    · rcases hx with ⟨z, _⟩ | ⟨_, z, _⟩
      · exact absurd hc z
      · omega
  · have hr : ∀ t, m' = up mA 363 15 t → JA (K + 400) m' := fun t hm => (hJ.read (hm ▸ hA ▸ RD.thr _ _)).mono (by omega)
    rcases hq with ⟨q1, q2, _⟩ | ⟨_, t, hx2, hm⟩
    · rcases hx with ⟨z, _⟩ | ⟨_, z, _⟩
      · exact absurd q1 z
      · omega
    · refine ⟨hr t hm, ?_, fun z => ?_⟩
      · rw [hm, up_same]
        rcases hx with ⟨z, q⟩ | ⟨z, _, q⟩ <;> rcases hx2 with ⟨z2, q2⟩ | ⟨z2, _, q2⟩ <;> first | exact q2.trans q.symm | exact absurd z z2 | exact absurd z2 z
      · rcases hx with ⟨_, q⟩ | ⟨_, _, q⟩ <;> (rw [q] at z; exact absurd z (by decide))
def JL (m : Mem) (l : List Int32) : Prop := LT m l ∧ LR m l ∧ m.1 363 14 = nI l.length ∧ l.length ≤ 80 ∧ ∀ j, j < l.length → ∃ c, c < 128 ∧ l.getD j 0 = nI c
theorem JA.jl {K : Nat} {m : Mem} (h : JA K m) : ∃ l, JL m l := h.2.2.2.2.2.2.2.2.2.2
theorem w_lineAt {g : xG} (hG : GK g) {z : xE} (hE : GE g z) {K : Nat} {m : Mem} (hJ : JA K m) {l : List Int32} (hl : JL m l) {x : Int32} : CC g yL_lineAt (.codeWith yL_lineAt cL_lineAt 4 (some .int) [(0, 9, 12, 21)]) (6 + 1) 1 6 [.ref (ad g 0), .int x, .ref (ad g 373)] m (rI (WA m (0 ≤ x ∧ x < nI l.length) (l.getD x.toNatClampNeg 0))) noX := by
  refine (c_L_lineAt hG (c_X9_lineAt hG hE hl.1 hl.2.2.2.2) (fun E m' h => h.1)).imp (fun r m' hq => ?_) (fun _ _ h => h)
  obtain ⟨v, e, hq⟩ := hq
  refine ⟨v, e, ?_⟩
  rcases hq with ⟨rfl, r0, m1, ⟨hc, rfl, rfl⟩, rfl⟩ | ⟨rfl, _, hn, rfl⟩
  · exact Or.inl ⟨hc, rfl, rfl⟩
  · exact Or.inr ⟨hn, rfl, rfl⟩
theorem n_lineAt {g : xG} (hG : GK g) {K : Nat} {m mA : Mem} (hJ : JA K m) {l : List Int32} (hl : JL m l) {x v : Int32} (hw : WA m (0 ≤ x ∧ x < nI l.length) (l.getD x.toNatClampNeg 0) v mA) : CC g yX10_lineAt (.code yX10_lineAt cX10_lineAt 2 (some .char)) 3 0 0 [.ref (ad g 363), .int x] mA (rI (fun b m2 => LOut (K + 400) v b m2)) noX := by
  refine (c_X10_lineAt hG (l := l) ((hw.rd.2.2 14 (by decide)).trans hl.2.2.1) (by unfold LR; rw [hw.rd.2.1 371 (by decide) (by decide) (by decide) (by decide) (by decide)]; exact hl.2.1) hl.2.2.2.1 hl.2.2.2.2).imp (fun r m' hq => ?_) (fun _ _ h => h)
  obtain ⟨b, e, hq⟩ := hq
  exact ⟨b, e, hw.fin (hJ.mono (by omega)) hq⟩
def okL (l : List Int32) : Bool := l.all fun c => decide (0 ≤ c) && decide (c < 128)
theorem okL_app (a b : List Int32) : okL (a ++ b) = (okL a && okL b) := List.all_append
theorem txt_ok0 : ∀ a, a ≤ 99 → okL (txtI (nI a)) = true ∧ okL (txtI (-(nI a))) = true := by decide +kernel
theorem txt_ok {a : Nat} {v : Int32} (ha : a ≤ 99) (h : n99 a v) : okL (txtI v) = true := by
  rcases h with ⟨e, _⟩ | ⟨e, _⟩
  · rw [e]; exact (txt_ok0 a ha).1
  · rw [e]; exact (txt_ok0 a ha).2
theorem lnT_ok {K T S : Nat → Int32} {N : Nat} (h : VB K T N) : ∀ y, y ≤ N → okL (lnT K T S y) = true
  | 0, _ => rfl
  | y + 1, hy => by
    obtain ⟨a, ha, hv⟩ := h.k (y := y) (by omega)
    obtain ⟨b, hb, hw⟩ := h.t (y := y) (by omega)
    show okL (lnT K T S y ++ lyT K T S y) = true
    unfold lyT
    rw [okL_app, okL_app, okL_app, okL_app, okL_app, lnT_ok h y (by omega), txt_ok ha hv, txt_ok hb hw]
    split <;> split <;> decide
theorem okL_at {l : List Int32} (h : okL l = true) : ∀ j, j < l.length → ∃ c, c < 128 ∧ l.getD j 0 = nI c := by
  intro j hj
  have e : l.getD j 0 = l[j] := by simp [List.getD, hj]
  have hm := List.all_eq_true.mp h l[j] (List.getElem_mem hj)
  rw [Bool.and_eq_true] at hm
  obtain ⟨c, hc, ec⟩ := nI_of (Int32.not_lt.mpr (of_decide_eq_true hm.1))
  have h2 := of_decide_eq_true hm.2
  rw [ec] at h2
  exact ⟨c, (nI_ltI (b := 128) hc (by decide)).mp h2, e.trans ec⟩
def lnX (m : Mem) (x : Int32) : List Int32 := lnT (m.1 (LK 0 x.toNatClampNeg + 1)) (m.1 (LK 0 x.toNatClampNeg + 2)) (m.1 (LK 0 x.toNatClampNeg + 3)) (nLy m 0 x.toNatClampNeg)
def WDs (m : Mem) (x v : Int32) (mA : Mem) : Prop := (inL m x ∧ v = 0 ∧ ∃ m1, LT m1 (lnX m x) ∧ LF m m1 ∧ mA = up m1 373 0 (nI (lnX m x).length)) ∨ (¬ inL m x ∧ v = 1 ∧ mA = m)
theorem lnX_ok {K : Nat} {m : Mem} (hJ : JA K m) {x : Int32} (hx : inL m x) : (lnX m x).length ≤ 80 ∧ ∀ j, j < (lnX m x).length → ∃ c, c < 128 ∧ (lnX m x).getD j 0 = nI c := by
  obtain ⟨j, hxe, hj, hjc⟩ := idx_j hx (by have := hJ.lw.nl5; omega)
  have hv := hJ.xl.1.1 j hj
  have h8 := (hJ.lw.ln hj).2
  unfold lnX
  rw [hjc]
  have := lnT_len (S := m.1 (LK 0 j + 3)) hv _ (Nat.le_refl _)
  exact ⟨by omega, okL_at (lnT_ok hv _ (Nat.le_refl _))⟩
theorem w_describeLake {g : xG} (hG : GK g) {z : xE} (hE : GE g z) {K : Nat} {m : Mem} (hJ : JA K m) {l : List Int32} (hl : JL m l) {x : Int32} : CC g yL_describeLake (.codeWith yL_describeLake cL_describeLake 4 (some .int) [(0, 9, 12, 21)]) (8 + 1) 42 8300 [.ref (ad g 0), .int x, .ref (ad g 373)] m (rI (WDs m x)) noX := by
  refine (c_L_describeLake hG (c_X9_describeLake hG hE hJ.ci hl.1.1 hJ.xl.1.1) (fun E m' h => h.1)).imp (fun r m' hq => ?_) (fun _ _ h => h)
  obtain ⟨v, e, hq⟩ := hq
  refine ⟨v, e, ?_⟩
  rcases hq with ⟨rfl, r0, m1, ⟨hc, rfl, h1, h2⟩, rfl⟩ | ⟨rfl, _, hn, rfl⟩
  · exact Or.inl ⟨hc, rfl, m1, h1, h2, rfl⟩
  · exact Or.inr ⟨hn, rfl, rfl⟩
theorem n_describeLake {g : xG} (hG : GK g) {K : Nat} {m mA : Mem} (hJ : JA K m) {x v : Int32} (hw : WDs m x v mA) : CC g yX10_describeLake (.code yX10_describeLake cX10_describeLake 4 (some .int)) 7 0 0 [.ref (ad g 363), .int x] mA (rI (fun b m2 => LOut (K + 400) v b m2)) noX := by
  have eA : ∀ k, k ≠ 360 → k ≠ 361 → k ≠ 373 → mA.1 k = m.1 k := fun k a b c => by
    rcases hw with ⟨_, _, m1, _, hF, rfl⟩ | ⟨_, _, rfl⟩
    · rw [up_cell _ _ _ c]; exact hF k a b
    · rfl
  refine (c_X10_describeLake hG (M := m) (by rw [eA 364 (by decide) (by decide) (by decide)]; exact hJ.rm) hJ.xl.1 (x := x) rfl rfl rfl rfl).imp (fun r m' hq => ?_) (fun _ _ h => h)
  obtain ⟨b, e, hq⟩ := hq
  refine ⟨b, e, ?_⟩
  rcases hw with ⟨hc, hv, m1, hLT, hF, hA⟩ | ⟨hn, hv, hA⟩
  · rcases hq with ⟨_, hb, h15, h14, hLR, h2, hk, hf⟩ | ⟨z, _⟩
    · have ek : ∀ k, k ≠ 360 → k ≠ 361 → k ≠ 363 → k ≠ 371 → k ≠ 373 → m'.1 k = m.1 k := fun k a b c d e => (hk k c d).trans (eA k a b e)
      have ef : ∀ f, f ≠ 14 → f ≠ 15 → m'.1 363 f = m.1 363 f := fun f a b => (hf f a b).trans (congrFun (eA 363 (by decide) (by decide) (by decide)) f)
      have hJ2 : JS m' m := hJ.1.mem (ek _ (by decide) (by decide) (by decide) (by decide) (by decide)) (ef 6 (by decide) (by decide)) (ef 5 (by decide) (by decide)) (ek _ (by decide) (by decide) (by decide) (by decide) (by decide)) (ek _ (by decide) (by decide) (by decide) (by decide) (by decide))
      have hkk : ∀ k, (k < 31 ∨ (61 ≤ k ∧ k < 333)) → m'.1 k = m.1 k := fun k hk => ek k (by omega) (by omega) (by omega) (by omega) (by omega)
      obtain ⟨b1, b2, b3, b4, b5, b6, b7, b8, _⟩ := hJ.2.2
      have e0 := ek 0 (by decide) (by decide) (by decide) (by decide) (by decide)
      have e333 := ek 333 (by decide) (by decide) (by decide) (by decide) (by decide)
      have etN : tN m' = tN m := by unfold tN; rw [e333]
      obtain ⟨l1, l2⟩ := lnX_ok hJ hc
      refine ⟨⟨hJ2.agr hkk, (hJ.2.1.agr hJ.ci hkk).mono (by omega), ?_, ?_, ?_, ?_, ?_, ?_, ?_, ?_, lnX m x, ?_, hLR, h14, l1, l2⟩, h15.trans hv.symm, fun _ => ?_⟩
      · unfold TK; rw [etN, e333]; exact b1
      · rw [etN, ef 12 (by decide) (by decide)]; exact b2
      · rw [ek 370 (by decide) (by decide) (by decide) (by decide) (by decide), ek 334 (by decide) (by decide) (by decide) (by decide) (by decide)]; exact b3
      · rw [e0, ef 7 (by decide) (by decide)]; exact b4
      · rw [e0, ef 8 (by decide) (by decide)]; exact b5
      · rw [e0, ef 9 (by decide) (by decide)]; exact b6
      · rw [e0]; exact b7
      · rw [ef 9 (by decide) (by decide)]; exact b8
      · have f1 : m'.1 360 = m1.1 360 := by rw [hk 360 (by decide) (by decide), hA, up_cell _ _ _ (by decide)]
        have f2 : m'.1 361 = m1.1 361 := by rw [hk 361 (by decide) (by decide), hA, up_cell _ _ _ (by decide)]
        have f3 : m'.2 = m1.2 := by rw [h2, hA]; rfl
        unfold LT SW at hLT ⊢
        rw [f1, f2, f3]
        exact hLT
      · rw [hk 373 (by decide) (by decide), hA, up_same, hb]
        rfl
    · exact absurd hc z
  · rcases hq with ⟨z, _⟩ | ⟨_, hb, hm⟩
    · exact absurd z hn
    · exact ⟨(hJ.read (hm ▸ hA ▸ RD.thr _ _)).mono (by omega), by rw [hm, up_same, hv], fun z => by rw [hv] at z; exact absurd z (by decide)⟩
