/-! the reference runs the text -/
theorem cmdF_congr {M : Mem} {i k : Nat} {n n' : Nat → Int32} (hk : k < 7) (h : ∀ j, j < ar k → n j = n' j) : cmdF M i k n = cmdF M i k n' ∧ cmdM i k n M = cmdM i k n' M := by
  rcases (by omega : k = 0 ∨ k = 1 ∨ k = 2 ∨ k = 3 ∨ k = 4 ∨ k = 5 ∨ k = 6) with rfl | rfl | rfl | rfl | rfl | rfl | rfl
  · have a := h 0 (by decide)
    exact ⟨by show placeF M i (n 0) = placeF M i (n' 0); rw [a], by show placeM i (n 0) M = placeM i (n' 0) M; rw [a]⟩
  · have a := h 0 (by decide); have b := h 1 (by decide); have c := h 2 (by decide)
    exact ⟨by show growF M i (n 0) (n 1) (n 2) = growF M i (n' 0) (n' 1) (n' 2); rw [a, b, c], by show growM i (n 0).toNatClampNeg (n 1) (n 2) M = growM i (n' 0).toNatClampNeg (n' 1) (n' 2) M; rw [a, b, c]⟩
  · have a := h 0 (by decide)
    exact ⟨by show airF (n 0) = airF (n' 0); rw [a], by show up M (LA i) 2 (n 0) = up M (LA i) 2 (n' 0); rw [a]⟩
  · have a := h 0 (by decide)
    exact ⟨by show passF (n 0) = passF (n' 0); rw [a], by show hoursM i M (n 0).toNatClampNeg = hoursM i M (n' 0).toNatClampNeg; rw [a]⟩
  · have a := h 0 (by decide); have b := h 1 (by decide)
    exact ⟨by show winF M i (n 0) (n 1) = winF M i (n' 0) (n' 1); rw [a, b], by show insM i (nWn M i) (n 0) (n 1) M = insM i (nWn M i) (n' 0) (n' 1) M; rw [a, b]⟩
  · have a := h 0 (by decide)
    exact ⟨by show openF M i (n 0) = openF M i (n' 0); rw [a], by show rmM i (nWn M i) (n 0).toNatClampNeg M = rmM i (nWn M i) (n' 0).toNatClampNeg M; rw [a]⟩
  · have a := h 0 (by decide); have b := h 1 (by decide)
    exact ⟨by show ringF M i (n 0) (n 1) = ringF M i (n' 0) (n' 1); rw [a, b], by show ringM i (n 0).toNatClampNeg (n 1).toNatClampNeg M = ringM i (n' 0).toNatClampNeg (n' 1).toNatClampNeg M; rw [a, b]⟩
theorem cmdM_XL {M : Mem} {i : Nat} {n : Nat → Int32} (hX : XL M i) (hL : LW M i) : (k : Nat) → cmdF M i k n = 45 → XL (cmdM i k n M) i
  | 0, hf => by
    have h := placeF_ok hL (x := n 0) hf
    exact hX.place hL h.1 ⟨Int32.not_lt.mp (fun z => h.2 (Or.inl z)), Int32.not_lt.mp (fun z => h.2 (Or.inr z))⟩
  | 1, hf => by
    have h := growF_ok hL (x := n 0) (t := n 1) (te := n 2) hf
    obtain ⟨j, hxe, hj, hjc⟩ := idx_j h.1 (by have := hL.nl5; omega)
    show XL (growM i (n 0).toNatClampNeg (n 1) (n 2) M) i
    rw [hjc] at h ⊢
    exact hX.grow hL hj h.2.2.1 ⟨Int32.not_lt.mp (fun z => h.2.1 (Or.inl z)), Int32.not_lt.mp (fun z => h.2.1 (Or.inr (Or.inl z)))⟩ ⟨Int32.not_lt.mp (fun z => h.2.1 (Or.inr (Or.inr (Or.inl z)))), Int32.not_lt.mp (fun z => h.2.1 (Or.inr (Or.inr (Or.inr z))))⟩ (Int32.not_lt.mp h.2.2.2)
  | 2, hf => by
    have h : ¬ (n 0 < -40 ∨ 20 < n 0) := by
      intro z
      have hf2 : airF (n 0) = 45 := hf
      unfold airF at hf2
      rw [if_pos z] at hf2
      exact absurd hf2 (by decide)
    exact hX.air hL.nl5 ⟨Int32.not_lt.mp (fun z => h (Or.inl z)), Int32.not_lt.mp (fun z => h (Or.inr z))⟩
  | 3, _ => hX.hours hL _
  | 4, hf => by
    have h := winF_ok2 hL (x := n 0) (z := n 1) hf
    exact hX.ins hL rfl h.2.1 h.1 h.2.2
  | 5, hf => by
    have h := openF_ok (x := n 0) hf
    obtain ⟨j, hxe, hj, hjc⟩ := idx_j h (by have := hL.wr.2; omega)
    show XL (rmM i (nWn M i) (n 0).toNatClampNeg M) i
    rw [hjc]
    exact hX.rm hL rfl hj
  | _ + 6, hf => by
    have h := (ringF_ok (m := M) (i := i) (x := n 0) (y := n 1) hf).1
    obtain ⟨j, hxe, hj, hjc⟩ := idx_j h.1 (by have := hL.nl5; omega)
    have h2 := h.2
    show XL (ringM i (n 0).toNatClampNeg (n 1).toNatClampNeg M) i
    rw [hjc] at h2 ⊢
    obtain ⟨q, hye, hq, hqc⟩ := idx_j h2 (by have := (hL.ln hj).2; omega)
    rw [hqc]
    exact hX.ring hL hj hq
theorem lfV_ne (k t : Int32) : ¬ lfV k t = 45 := by
  unfold lfV
  repeat' split
  all_goals decide
theorem JS.run0 {m M M' : Mem} (h : JS m M) (hF : FP M M') : RM (m.1 364) (trM M') 1 ∧ XL (trM M') 1 := by
  have ha : Agr M (up M' 333 1 0) 0 := fun o ho => by rw [up_cell _ _ _ (by rw [LA_0]; omega)]; exact hF.2.1 _ (Or.inl (by rw [LA_0]; omega))
  have h5 := h.2.1.1.nl5
  have hs := (ha.sm h5).trans (cpLand_sm (i := 1) (i2 := 0) (by decide) (by rw [ha.nl]; exact h5))
  exact h.1.sm hs
theorem JS.runok {m M M' ma : Mem} {n : Nat} (h : JS m M) (hF : FP M M') (hok : ∀ q, q < n → okM M' q) (hL : LW (trM M') 1) (hMF : MFr (up (begM m) 363 15 0) ma) (hR : RM (ma.1 364) (runM M' n) 1) (hX : XL (runM M' n) 1) : JS (reMM (hc M) ma) (cpLand 0 1 (rem (runM M' n))) ∧ MFx m (reMM (hc M) ma) ∧ ma.1 363 6 = nI (hc M) := by
  obtain ⟨_, hcell⟩ := run_ok hL n hok
  have hag : ∀ k, (k < 31 ∨ (61 ≤ k ∧ k < 333)) → (runM M' n).1 k = M.1 k := fun k hk => by
    rw [hcell k (by omega)]
    have h5 : nLk (up M' 333 1 0) 0 ≤ 5 := by
      have ha : Agr M (up M' 333 1 0) 0 := fun o ho => by rw [up_cell _ _ _ (by rw [LA_0]; omega)]; exact hF.2.1 _ (Or.inl (by rw [LA_0]; omega))
      rw [ha.nl]
      exact h.2.1.1.nl5
    show (cpLand 1 0 (up M' 333 1 0)).1 k = _
    rw [cpLand_cell h5 (by rw [LA_1]; omega), up_cell _ _ _ (by omega)]
    exact hF.2.1 k (Or.inl (by omega))
  have hJ := h.agr hag
  have ehc : hc (runM M' n) = hc M := by unfold hc; rw [hag 91 (by omega)]
  have hL0 := hJ.2.1.1
  have a1 := rem_agr hL0 (i := 1) (by omega)
  have s1 := a1.sm hR.2.1.nl5
  have s2 := s1.trans (cpLand_sm (i := 0) (i2 := 1) (by decide) (by rw [a1.nl]; exact hR.2.1.nl5))
  have g : GL (ma.1 364) (cpLand 0 1 (rem (runM M' n))) 0 := GL.sm ⟨hR, hX⟩ s2
  have r := hJ.ok hMF g.1 g.2 (fun k hk => cpLand_cell (by rw [a1.nl]; exact hR.2.1.nl5) (by rw [LA_0]; omega))
  rw [ehc] at r
  refine ⟨r.1, r.2, ?_⟩
  rw [hMF.2 363 (by decide) (by decide), up_slot _ _ _ (by decide), begM_k _ (by decide)]
  exact h.2.2.1
def runFr (m m2 : Mem) : Prop := m2.2 = m.2 ∧ (∀ k, k ≠ 363 → k ≠ 364 → k ≠ 365 → k ≠ 368 → k ≠ 369 → k ≠ 372 → m2.1 k = m.1 k) ∧ (∀ f, (f < 6 ∨ 10 ≤ f) → f ≠ 12 → f ≠ 15 → f ≠ 16 → f ≠ 17 → f ≠ 18 → f ≠ 19 → m2.1 363 f = m.1 363 f) ∧ m2.1 363 12 = 0
def runJ (m M M' : Mem) (R : Bool × Nat × CS) (v : Int32) (m2 : Mem) : Prop := runFr m m2 ∧ ((R.1 = false ∧ v = 0 ∧ m2.1 363 15 = 1 ∧ m2.1 363 7 = nI R.2.1 ∧ R.2.1 ≤ 60 ∧ m2.1 363 8 = m.1 363 8 ∧ m2.1 363 9 = m.1 363 9 ∧ JS m2 M) ∨
  (R.1 = true ∧ (∀ q, q < R.2.2.length → okM M' q) ∧ v = nI R.2.2.length ∧ m2.1 363 15 = 0 ∧ m2.1 363 7 = m.1 363 7 ∧ m2.1 363 8 = m.1 363 8 ∧ m2.1 363 9 = m.1 363 9 ∧ JS m2 (cpLand 0 1 (rem (runM M' R.2.2.length)))) ∨
  (R.1 = true ∧ ∃ q, q < R.2.2.length ∧ (∀ q2, q2 < q → okM M' q2) ∧ ¬ okM M' q ∧ v = 0 ∧ m2.1 363 15 = 2 ∧ m2.1 363 7 = m.1 363 7 ∧ m2.1 363 8 = nI q ∧ m2.1 363 9 = cmdF (runM M' q) 1 (kdM M' q) (M'.1 (CM q + 1)) ∧ JS m2 M))
theorem runJ.bad {m m1 M M' : Mem} {R : Bool × Nat × CS} (hJ : JS m M) (hf : rdFr m m1) (hR : R.1 = false) (h60 : R.2.1 ≤ 60) : runJ m M M' R 0 (up (up m1 363 7 (nI R.2.1)) 363 15 1) := by
  obtain ⟨f1, f2, f3, f4⟩ := hf
  refine ⟨⟨f1, fun k a b c d e f => ?_, fun f a b c d e h i => ?_, ?_⟩, Or.inl ⟨hR, rfl, up_same _ _ _ _, ?_, h60, ?_, ?_, ?_⟩⟩
  · rw [up_cell _ _ _ a, up_cell _ _ _ a]; exact f2 k a f
  · rw [up_slot _ _ _ c, up_slot _ _ _ (by omega)]; exact f3 f b d e h i
  · rw [up_slot _ _ _ (by decide), up_slot _ _ _ (by decide)]; exact f4
  · rw [up_slot _ _ _ (by decide), up_same]
  · rw [up_slot _ _ _ (by decide), up_slot _ _ _ (by decide)]; exact f3 8 (by decide) (by decide) (by decide) (by decide) (by decide)
  · rw [up_slot _ _ _ (by decide), up_slot _ _ _ (by decide)]; exact f3 9 (by decide) (by decide) (by decide) (by decide) (by decide)
  · refine hJ.mem ?_ ?_ ?_ ?_ ?_
    · rw [up_cell _ _ _ (by decide), up_cell _ _ _ (by decide)]; exact f2 _ (by decide) (by decide)
    · rw [up_slot _ _ _ (by decide), up_slot _ _ _ (by decide)]; exact f3 6 (by decide) (by decide) (by decide) (by decide) (by decide)
    · rw [up_slot _ _ _ (by decide), up_slot _ _ _ (by decide)]; exact f3 5 (by decide) (by decide) (by decide) (by decide) (by decide)
    · rw [up_cell _ _ _ (by decide), up_cell _ _ _ (by decide)]; exact f2 _ (by decide) (by decide)
    · rw [up_cell _ _ _ (by decide), up_cell _ _ _ (by decide)]; exact f2 _ (by decide) (by decide)
theorem JS.rd {m m1 M : Mem} (hJ : JS m M) (hf : rdFr m m1) : JS m1 M :=
  hJ.mem (hf.2.1 _ (by decide) (by decide)) (hf.2.2.1 6 (by decide) (by decide) (by decide) (by decide) (by decide)) (hf.2.2.1 5 (by decide) (by decide) (by decide) (by decide) (by decide)) (hf.2.1 _ (by decide) (by decide)) (hf.2.1 _ (by decide) (by decide))
theorem runFr.mk {m m1 m2 : Mem} (hf : rdFr m m1) (h1 : m2.2 = m1.2) (h2 : ∀ k, k ≠ 363 → k ≠ 364 → k ≠ 365 → k ≠ 368 → k ≠ 369 → m2.1 k = m1.1 k) (h3 : ∀ f, (f < 6 ∨ 10 ≤ f) → f ≠ 15 → m2.1 363 f = m1.1 363 f) : runFr m m2 :=
  ⟨h1.trans hf.1, fun k a b c d e f => (h2 k a b c d e).trans (hf.2.1 k a f), fun f a b c d e h i => (h3 f a c).trans (hf.2.2.1 f b d e h i), (h3 12 (by decide) (by decide)).trans hf.2.2.2⟩
theorem runJ.good {m m1 M M' ma : Mem} {R : Bool × Nat × CS} (hJ : JS m M) (hF : FP M M') (hf : rdFr m m1) (hR : R.1 = true) (hok : ∀ q, q < R.2.2.length → okM M' q) (hL : LW (trM M') 1) (hMF : MFr (up (begM m1) 363 15 0) ma) (hRM : RM (ma.1 364) (runM M' R.2.2.length) 1) (hX : XL (runM M' R.2.2.length) 1) : runJ m M M' R (nI R.2.2.length) (reMM (hc M) ma) := by
  obtain ⟨r1, r2, _⟩ := (hJ.rd hf).runok hF hok hL hMF hRM hX
  have q363 : ∀ f, f ≠ 6 → (reMM (hc M) ma).1 363 f = ma.1 363 f := fun f hf => by
    unfold reMM; rw [up_slot _ _ _ hf, setRow_cell _ _ (by decide)]
  have a363 : ∀ f, f ≠ 15 → ma.1 363 f = m1.1 363 f := fun f h => by rw [hMF.2 363 (by decide) (by decide), up_slot _ _ _ h, begM_k _ (by decide)]
  have hs : ∀ f, f ≠ 6 → f ≠ 15 → (reMM (hc M) ma).1 363 f = m1.1 363 f := fun f a b => (q363 f a).trans (a363 f b)
  refine ⟨runFr.mk hf r2.1 (fun k a b c d e => r2.2.1 k a b c d e) (fun f a b => r2.2.2 f b (by omega)), Or.inr (Or.inl ⟨hR, hok, rfl, ?_, ?_, ?_, ?_, r1⟩)⟩
  · rw [q363 15 (by decide), hMF.2 363 (by decide) (by decide), up_same]
  · exact (hs 7 (by decide) (by decide)).trans (hf.2.2.1 7 (by decide) (by decide) (by decide) (by decide) (by decide))
  · exact (hs 8 (by decide) (by decide)).trans (hf.2.2.1 8 (by decide) (by decide) (by decide) (by decide) (by decide))
  · exact (hs 9 (by decide) (by decide)).trans (hf.2.2.1 9 (by decide) (by decide) (by decide) (by decide) (by decide))
theorem runJ.fault {m m1 M M' ma : Mem} {R : Bool × Nat × CS} {q : Nat} {t fl : Int32} (hJ : JS m M) (hf : rdFr m m1) (hR : R.1 = true) (hq : q < R.2.2.length) (hok : ∀ q2, q2 < q → okM M' q2) (hno : ¬ okM M' q) (hMF : MFr (up (begM m1) 363 15 0) ma) (hfl : fl = cmdF (runM M' q) 1 (kdM M' q) (M'.1 (CM q + 1))) : runJ m M M' R 0 (setRow (up (up (up (up ma 363 15 t) 363 8 (nI q)) 363 9 fl) 363 15 2) 364 (cpRow ((up (up (up (up ma 363 15 t) 363 8 (nI q)) 363 9 fl) 363 15 2).1 365) ((up (up (up (up ma 363 15 t) 363 8 (nI q)) 363 9 fl) 363 15 2).1 364) 0 0)) := by
  obtain ⟨mb, hb⟩ : ∃ mb, mb = up (up (up (up ma 363 15 t) 363 8 (nI q)) 363 9 fl) 363 15 2 := ⟨_, rfl⟩
  rw [← hb]
  have bk : ∀ k, k ≠ 363 → k ≠ 364 → k ≠ 365 → k ≠ 369 → mb.1 k = m1.1 k := fun k a b c d => by
    rw [hb, up_cell _ _ _ a, up_cell _ _ _ a, up_cell _ _ _ a, up_cell _ _ _ a, hMF.2 k b d, up_cell _ _ _ a, begM_k _ c]
  have b365 : ∀ k, k < 218 → mb.1 365 k = m1.1 364 k := fun k hk => by
    rw [hb, up_cell _ _ _ (by decide), up_cell _ _ _ (by decide), up_cell _ _ _ (by decide), up_cell _ _ _ (by decide), hMF.2 365 (by decide) (by decide), up_cell _ _ _ (by decide)]
    exact begM_365 m1 hk
  have bf : ∀ f, f ≠ 15 → f ≠ 8 → f ≠ 9 → mb.1 363 f = m1.1 363 f := fun f a b c => by
    rw [hb, up_slot _ _ _ a, up_slot _ _ _ c, up_slot _ _ _ b, up_slot _ _ _ a, hMF.2 363 (by decide) (by decide), up_slot _ _ _ a, begM_k _ (by decide)]
  have b2 : mb.2 = m1.2 := by rw [hb]; exact hMF.1
  refine ⟨runFr.mk hf b2 (fun k a b c d e => by rw [setRow_cell _ _ b]; exact bk k a b c e) (fun f a b => by rw [setRow_cell _ _ (by decide)]; exact bf f b (by omega) (by omega)), Or.inr (Or.inr ⟨hR, q, hq, hok, hno, rfl, ?_, ?_, ?_, ?_, ?_⟩)⟩
  · rw [setRow_cell _ _ (by decide), hb, up_same]
  · rw [setRow_cell _ _ (by decide), bf 7 (by decide) (by decide) (by decide)]; exact hf.2.2.1 7 (by decide) (by decide) (by decide) (by decide) (by decide)
  · rw [setRow_cell _ _ (by decide), hb, up_slot _ _ _ (by decide), up_slot _ _ _ (by decide), up_same]
  · rw [setRow_cell _ _ (by decide), hb, up_slot _ _ _ (by decide), up_same]; exact hfl
  · refine (hJ.rd hf).mem2 (fun k hk => ?_) ?_ ?_ ?_ ?_
    · rw [setRow_same, cpRow_lo hk, Nat.zero_add]; exact b365 k hk
    · rw [setRow_cell _ _ (by decide)]; exact bf 6 (by decide) (by decide) (by decide)
    · rw [setRow_cell _ _ (by decide)]; exact bf 5 (by decide) (by decide) (by decide)
    · rw [setRow_cell _ _ (by decide)]; exact bk _ (by decide) (by decide) (by decide) (by decide)
    · rw [setRow_cell _ _ (by decide)]; exact bk _ (by decide) (by decide) (by decide) (by decide)

set_option maxRecDepth 100000 in
set_option maxHeartbeats 1000000 in
theorem c_X10_run {g : xG} (hG : GK g) {z : xE} (hE : GE g z) {m M M' : Mem} (hJ : JS m M) {N : Nat} (h12 : m.1 363 12 = nI N) (hN : N ≤ 60) {R : Bool × Nat × CS} (hR : cmdsS (m.1 370) N 12 0 [] = R) (hF : FP M M') (hAcc0 : R.1 = true → AccOK R.2.2 M') (hL : LW (trM M') 1) : CC g yX10_run (.code yX10_run cX10_run 3 (some .int)) 12 0 0 [.ref (ad g 363)] m (rI (runJ m M M' R)) noX := by
  refine CC.mk hG RX10 rfl (by decide +kernel) rfl (Nat.le_of_ble_eq_true rfl) (fun sz B hB hX => ?_)
  show V g B 0 0 _ (hp g m) sz 0 [some (.ref (ad g 363)), none, none] []
  have bad : ∀ m1 : Mem, rdFr m m1 → R.1 = false → R.2.1 ≤ 60 → m1.1 363 18 = nI R.2.1 → ∀ (sz : Nat), V g B 0 0 (QM g B 0 0 (rI (runJ m M M' R)) noX) (hp g (m1)) sz 4 [some (.ref (ad g 363)), none, none] [] := by
    intro m1 hf hRf h60 hw sz
    refine V.aload_n (pc := 4) hB dX10_run_4 rfl ?_
    refine V.get (pc := 5) hB fk_Model 18 wf_X10_197 dX10_run_5 (by decide) (hp_at (ca_Model _)) rfl ?_
    rw [hw]
    refine V.iconst (pc := 8) (v := (-1)) hB dX10_run_8 rfl ?_
    refine V.icmp_eq (pc := 9) (tgt := 27) hB dX10_run_9 (by decide) (fun c_9 => ?_) (fun c_9 => ?_)
    · exact absurd c_9 (nIk_ne (by omega))
    · refine V.aload_n (pc := 12) hB dX10_run_12 rfl ?_
      refine V.aload_n (pc := 13) hB dX10_run_13 rfl ?_
      refine V.get (pc := 14) hB fk_Model 18 wf_X10_197 dX10_run_14 (by decide) (hp_at (ca_Model _)) rfl ?_
      rw [hw]
      refine V.p_Model_f7 (pc := 17) hB wf_X10_25 dX10_run_17 ?_
      refine V.aload_n (pc := 20) hB dX10_run_20 rfl ?_
      refine V.iconst (pc := 21) (v := 1) hB dX10_run_21 rfl ?_
      refine V.p_Model_f15 (pc := 22) hB wf_X10_44 dX10_run_22 ?_
      refine V.iconst (pc := 25) (v := 0) hB dX10_run_25 rfl ?_
      refine V.retI (pc := 26) hB dX10_run_26 rfl (rfl) (by omega) (by omega) ?_
      exact runJ.bad hJ hf hRf h60
  have flt : ∀ (q : Nat) (ma : Mem) (v t : Int32) (k : Nat), q < R.2.2.length → R.2.2.length ≤ 12 → ¬ t = 0 → k < 7 → ma.1 372 (4 * q) = nI k → lfV (nI k) t = (cmdF (runM M' q) 1 (kdM M' q) (M'.1 (CM q + 1))) → runJ m M M' R 0 (setRow (up (up (up (up ma 363 15 t) 363 8 (nI q)) 363 9 (cmdF (runM M' q) 1 (kdM M' q) (M'.1 (CM q + 1)))) 363 15 2) 364 (cpRow ((up (up (up (up ma 363 15 t) 363 8 (nI q)) 363 9 (cmdF (runM M' q) 1 (kdM M' q) (M'.1 (CM q + 1)))) 363 15 2).1 365) ((up (up (up (up ma 363 15 t) 363 8 (nI q)) 363 9 (cmdF (runM M' q) 1 (kdM M' q) (M'.1 (CM q + 1)))) 363 15 2).1 364) 0 0)) → ∀ (sz : Nat) (x2 : Option Value), V g B 0 0 (QM g B 0 0 (rI (runJ m M M' R)) noX) (hp g ((up ma 363 15 t))) sz 53 [some (.ref (ad g 363)), some (.int (nI q)), x2] [.int v] := by
    intro q ma v t k hlt h12 ht hk7 hn1 hlf hP sz x2
    refine V.istore_n (pc := 53) hB dX10_run_53 (by decide) rfl ?_
    refine V.aload_n (pc := 54) hB dX10_run_54 rfl ?_
    refine V.get (pc := 55) hB fk_Model 15 wf_X10_44 dX10_run_55 (by decide) (hp_at (ca_Model _)) rfl ?_
    rw [up_same]
    refine V.if_eq (pc := 58) (tgt := 102) hB dX10_run_58 (by decide) (fun c_58 => ?_) (fun c_58 => ?_)
    · exact absurd c_58 ht
    · refine V.aload_n (pc := 61) hB dX10_run_61 rfl ?_
      refine V.iload_n (pc := 62) hB dX10_run_62 rfl ?_
      refine V.p_Model_f8 (pc := 63) hB wf_X10_29 dX10_run_63 ?_
      refine V.aload_n (pc := 66) hB dX10_run_66 rfl ?_
      refine V.aload_n (pc := 67) hB dX10_run_67 rfl ?_
      refine V.aload_n (pc := 68) hB dX10_run_68 rfl ?_
      refine V.get (pc := 69) hB fk_Model 20 wf_X10_41 dX10_run_69 (by decide) (hp_at (ca_Model _)) rfl ?_
      refine V.iconst (pc := 72) (v := 4) hB dX10_run_72 rfl ?_
      refine V.iload_n (pc := 73) hB dX10_run_73 rfl ?_
      refine V.imul (pc := 74) hB dX10_run_74 ?_
      rw [mul4 q]
      refine V.ialdM (pc := 75) hB (ca_Nums) dX10_run_75 (ix_nI (by omega) (by decide)) ?_
      rw [up_cell _ _ _ (by decide), up_cell _ _ _ (by decide), hn1]
      refine V.cv (pc := 76) hB cw_X10_letterFor wm_X10_244 wi_X10_letterFor ws_X10_letterFor dX10_run_76 (c_X10_letterFor hG) (hp_at (ca_Model _)) fk_Model rfl (by omega) (by decide) rfl (by exact Nat.le_of_ble_eq_true rfl) (by omega) (by omega) kN (kI (fun v_76 m_76 sz h_76 => ?_)) rfl
      obtain ⟨rfl, hm_76⟩ := h_76
      obtain rfl := hm_76.symm
      rw [up_slot _ _ _ (show 15 ≠ 8 by decide), up_same, hlf]
      refine V.p_Model_f9 (pc := 79) hB wf_X10_247 dX10_run_79 ?_
      refine V.aload_n (pc := 82) hB dX10_run_82 rfl ?_
      refine V.iconst (pc := 83) (v := 2) hB dX10_run_83 rfl ?_
      refine V.p_Model_f15 (pc := 84) hB wf_X10_44 dX10_run_84 ?_
      refine V.aload_n (pc := 87) hB dX10_run_87 rfl ?_
      refine V.get (pc := 88) hB fk_Model 1 wf_X10_13 dX10_run_88 (by decide) (hp_at (ca_Model _)) rfl ?_
      refine V.iconst (pc := 91) (v := 0) hB dX10_run_91 rfl ?_
      refine V.aload_n (pc := 92) hB dX10_run_92 rfl ?_
      refine V.get (pc := 93) hB fk_Model 0 wf_X10_9 dX10_run_93 (by decide) (hp_at (ca_Model _)) rfl ?_
      refine V.iconst (pc := 96) (v := 0) hB dX10_run_96 rfl ?_
      refine V.cs (pc := 97) hB cw_X10_copies wm_X10_51 wst_X10_copies dX10_run_97 (c_X10_copies hG (k0 := 365) (k1 := 364) (a := 0) (b := 0) (by decide) (by decide) ca_Before ca_Now (by decide) (by decide) (by decide) (xa := 0) (xb := 0) rfl rfl) (by omega) (by decide) rfl (by exact Nat.le_of_ble_eq_true rfl) (by omega) (by omega) kN (kV (fun m_97 sz h_97 => ?_)) rfl
      subst h_97
      refine V.iconst (pc := 100) (v := 0) hB dX10_run_100 rfl ?_
      refine V.retI (pc := 101) hB dX10_run_101 rfl (rfl) (by omega) (by omega) ?_
      exact hP
  have okc : ∀ (q : Nat) (m2 : Mem) (v : Int32), m2.1 363 15 = 0 → (∀ (sz : Nat) (x2 : Option Value), V g B 0 0 (QM g B 0 0 (rI (runJ m M M' R)) noX) (hp g (m2)) sz 38 [some (.ref (ad g 363)), some (.int (nI (q + 1))), x2] []) → ∀ (sz : Nat) (x2 : Option Value), V g B 0 0 (QM g B 0 0 (rI (runJ m M M' R)) noX) (hp g (m2)) sz 53 [some (.ref (ad g 363)), some (.int (nI q)), x2] [.int v] := by
    intro q m2 v h15 nx sz x2
    refine V.istore_n (pc := 53) hB dX10_run_53 (by decide) rfl ?_
    refine V.aload_n (pc := 54) hB dX10_run_54 rfl ?_
    refine V.get (pc := 55) hB fk_Model 15 wf_X10_44 dX10_run_55 (by decide) (hp_at (ca_Model _)) rfl ?_
    rw [h15]
    refine V.if_eq (pc := 58) (tgt := 102) hB dX10_run_58 (by decide) (fun c_58 => ?_) (fun c_58 => ?_)
    · refine V.iinc (pc := 102) (v := nI (q + 1)) hB dX10_run_102 rfl (nI_1 _) (by decide) rfl ?_
      refine V.goto (pc := 105) (tgt := 38) hB dX10_run_105 (by decide) ?_
      exact nx sz _
    · exact absurd rfl c_58
  have lp : ∀ m1 : Mem, rdFr m m1 → R.1 = true → R.2.2.length ≤ 12 → m1.1 363 19 = nI R.2.2.length → NumOK R.2.2 m1 → ∀ q : Nat, q ≤ R.2.2.length → ∀ (ma : Mem) (sz : Nat) (x2 : Option Value), MFr (up (begM m1) 363 15 0) ma → RM (ma.1 364) (runM M' q) 1 → XL (runM M' q) 1 → (∀ q2, q2 < q → okM M' q2) → V g B 0 0 (QM g B 0 0 (rI (runJ m M M' R)) noX) (hp g (ma)) sz 38 [some (.ref (ad g 363)), some (.int (nI q)), x2] [] := by
    intro m1 hf hRt h12 h19 hNum
    have hAcc := hAcc0 hRt
    refine loop_up (fun q hq ih => ?_)
    intro ma sz x2 hMF hRM hX hok
    refine V.iload_n (pc := 38) hB dX10_run_38 rfl ?_
    refine V.aload_n (pc := 39) hB dX10_run_39 rfl ?_
    refine V.get (pc := 40) hB fk_Model 19 wf_X10_223 dX10_run_40 (by decide) (hp_at (ca_Model _)) rfl ?_
    rw [hMF.2 363 (by decide) (by decide), up_slot _ _ _ (by decide), begM_k _ (by decide), h19]
    refine V.icmp_ge (pc := 43) (tgt := 108) hB dX10_run_43 (by decide) (fun c_43 => ?_) (fun c_43 => ?_)
    · have hqn : q = R.2.2.length := by have := (nI_leI (by omega) (by omega)).mp c_43; omega
      subst hqn
      refine V.aload_n (pc := 108) hB dX10_run_108 rfl ?_
      refine V.aload_n (pc := 109) hB dX10_run_109 rfl ?_
      refine V.get (pc := 110) hB fk_Model 19 wf_X10_223 dX10_run_110 (by decide) (hp_at (ca_Model _)) rfl ?_
      rw [hMF.2 363 (by decide) (by decide), up_slot _ _ _ (by decide), begM_k _ (by decide), h19]
      refine V.cv (pc := 113) hB cw_X10_ends wm_X10_104 wi_X10_ends ws_X10_ends dX10_run_113 (c_X10_ends hG (n := hc M) ((hJ.rd hf).runok hF hok hL hMF hRM hX).2.2 hJ.2.1.2.1.2.2.2) (hp_at (ca_Model _)) fk_Model rfl (by omega) (by decide) rfl (by exact Nat.le_of_ble_eq_true rfl) (by omega) (by omega) kN (kI (fun v_113 m_113 sz h_113 => ?_)) rfl
      refine V.retI (pc := 116) hB dX10_run_116 rfl (rfl) (by omega) (by omega) ?_
      rcases h_113 with ⟨_, rfl, rfl⟩ | ⟨hz, _⟩
      · exact runJ.good hJ hF hf hRt hok hL hMF hRM hX
      · exact absurd (by rw [hMF.2 363 (by decide) (by decide), up_same]) hz
    · have hlt : q < R.2.2.length := Nat.not_le.mp (fun z => c_43 ((nI_leI (by omega) (by omega)).mpr z))
      refine V.aload_n (pc := 46) hB dX10_run_46 rfl ?_
      refine V.iconst (pc := 47) (v := 4) hB dX10_run_47 rfl ?_
      refine V.iload_n (pc := 48) hB dX10_run_48 rfl ?_
      refine V.imul (pc := 49) hB dX10_run_49 ?_
      rw [mul4 q]
      obtain ⟨n1, n2, n3, n4⟩ := hNum q hlt
      obtain ⟨a1, a2, a3⟩ := hAcc q hlt
      obtain ⟨k, hk⟩ : ∃ k, k = (R.2.2.getD q (0, [])).1 := ⟨_, rfl⟩
      rw [← hk] at n1 n2 n3 a1
      have e372 : ma.1 372 = m1.1 372 := by rw [hMF.2 372 (by decide) (by decide), up_cell _ _ _ (by decide), begM_k _ (by decide)]
      have hkd : kdM M' q = k := by unfold kdM; rw [a1, nI_clamp (by omega)]
      have har := ar_le n2
      have hcg : cmdF (runM M' q) 1 k (fun j => ma.1 372 (4 * q + 1 + j)) = cmdF (runM M' q) 1 (kdM M' q) (M'.1 (CM q + 1)) ∧ cmdM 1 k (fun j => ma.1 372 (4 * q + 1 + j)) (runM M' q) = cmdM 1 (kdM M' q) (M'.1 (CM q + 1)) (runM M' q) := by
        rw [hkd]
        refine cmdF_congr n2 (fun j hj => ?_)
        show ma.1 372 (4 * q + 1 + j) = _
        rw [e372, n4 j (by omega), a3 j (by omega) (by omega)]
      refine V.cv (pc := 50) hB cw_X10_does wm_X10_241 wi_X10_does ws_X10_does dX10_run_50 (c_X10_does hG hRM hX (c := q) (k := k) (by omega) n2 (n := fun j => ma.1 372 (4 * q + 1 + j)) (by rw [e372]; exact n1) rfl rfl rfl) (hp_at (ca_Model _)) fk_Model rfl (by omega) (by decide) rfl (by exact Nat.le_of_ble_eq_true rfl) (by omega) (by omega) kN (kI (fun v_50 m_50 sz h_50 => ?_)) rfl
      rcases h_50 with ⟨hf1, hF2, hR2⟩ | ⟨t, ht, hlf, hm⟩
      · have hokq : okM M' q := hcg.1.symm.trans hf1
        have h15 : ma.1 363 15 = 0 := by rw [hMF.2 363 (by decide) (by decide), up_same]
        rw [up_id h15] at hF2
        rw [hcg.2] at hR2
        have hX2 : XL (runM M' (q + 1)) 1 := cmdM_XL hX hRM.2.1 _ hokq
        exact okc q m_50 v_50 (by rw [hF2.2 363 (by decide) (by decide)]; exact h15) (fun sz x2 => ih hlt m_50 sz x2 (hMF.trans hF2) hR2 hX2 (fun q2 h2 => by
          by_cases e : q2 = q
          · rw [e]; exact hokq
          · exact hok q2 (by omega))) sz x2
      · subst hm
        exact flt q ma v_50 t k hlt h12 ht n2 (by rw [e372]; exact n1) (by rw [hlf]; exact hcg.1) (runJ.fault hJ hf hRt hlt hok (fun z => lfV_ne _ _ (hlf.trans (hcg.1.trans z))) hMF rfl) sz x2
      skip
  have good : ∀ m1 : Mem, rdFr m m1 → R.1 = true → R.2.2.length ≤ 12 → m1.1 363 18 = -1 → m1.1 363 19 = nI R.2.2.length → NumOK R.2.2 m1 → ∀ (sz : Nat), V g B 0 0 (QM g B 0 0 (rI (runJ m M M' R)) noX) (hp g (m1)) sz 4 [some (.ref (ad g 363)), none, none] [] := by
    intro m1 hf hRt h12 hw h19 hNum sz
    refine V.aload_n (pc := 4) hB dX10_run_4 rfl ?_
    refine V.get (pc := 5) hB fk_Model 18 wf_X10_197 dX10_run_5 (by decide) (hp_at (ca_Model _)) rfl ?_
    rw [hw]
    refine V.iconst (pc := 8) (v := (-1)) hB dX10_run_8 rfl ?_
    refine V.icmp_eq (pc := 9) (tgt := 27) hB dX10_run_9 (by decide) (fun c_9 => ?_) (fun c_9 => ?_)
    · refine V.aload_n (pc := 27) hB dX10_run_27 rfl ?_
      refine V.cv (pc := 28) hB cw_X10_begins wm_X10_97 wi_X10_begins ws_X10_begins dX10_run_28 (c_X10_begins hG) (hp_at (ca_Model _)) fk_Model rfl (by omega) (by decide) rfl (by exact Nat.le_of_ble_eq_true rfl) (by omega) (by omega) kN (kV (fun m_28 sz h_28 => ?_)) rfl
      subst h_28
      refine V.mem (m2 := begM m1) rfl ?_
      refine V.aload_n (pc := 31) hB dX10_run_31 rfl ?_
      refine V.iconst (pc := 32) (v := 0) hB dX10_run_32 rfl ?_
      refine V.p_Model_f15 (pc := 33) hB wf_X10_44 dX10_run_33 ?_
      refine V.iconst (pc := 36) (v := 0) hB dX10_run_36 rfl ?_
      refine V.istore_n (pc := 37) hB dX10_run_37 (by decide) rfl ?_
      obtain ⟨g1, g2⟩ := (hJ.rd hf).run0 hF
      exact lp m1 hf hRt h12 h19 hNum 0 (by omega) _ sz _ (MFr.refl _) (by rw [up_cell _ _ _ (by decide), begM_k _ (by decide)]; exact g1) g2 (fun q2 h => absurd h (by omega))
    · exact absurd rfl c_9
  refine V.aload_n (pc := 0) hB dX10_run_0 rfl ?_
  refine V.cv (pc := 1) hB cw_X10_readsAll wm_X10_238 wi_X10_readsAll ws_X10_readsAll dX10_run_1 (c_X10_readsAll hG hE h12 hN hR) (hp_at (ca_Model _)) fk_Model rfl (by omega) (by decide) rfl (by exact Nat.le_of_ble_eq_true rfl) (by omega) (by omega) kN (kV (fun m_1 sz h_1 => ?_)) rfl
  obtain ⟨hf, ⟨hRt, hw, h19, h12, hNum⟩ | ⟨hRf, hw, h60⟩⟩ := h_1
  · exact good m_1 hf hRt h12 hw h19 hNum sz
  · exact bad m_1 hf hRf h60 hw sz
