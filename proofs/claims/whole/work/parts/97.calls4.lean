/-! each call of both: run -/
def RN (m M' : Mem) (v : Int32) (mA : Mem) : Prop := prsM (m.1 334) (tN m) m M' ∧ (((runR m).1 = false ∧ v = 1 ∧ mA = up (up M' 333 1 0) 0 6 (nI (runR m).2.1)) ∨
  ((runR m).1 = true ∧ v = 0 ∧ (∀ q, q < (runR m).2.2.length → okM M' q) ∧ mA = up (cpLand 0 1 (rem (runM M' (runR m).2.2.length))) 373 0 (nI (runR m).2.2.length)) ∨
  ((runR m).1 = true ∧ v = 2 ∧ ∃ q, q < (runR m).2.2.length ∧ (∀ q2, q2 < q → okM M' q2) ∧ ¬ okM M' q ∧ mA = up (up (runM M' q) 0 7 (nI q)) 0 8 (cmdF (runM M' q) 1 (kdM M' q) (M'.1 (CM q + 1)))))
theorem RN.agr {K : Nat} {m M' : Mem} (hJ : JA K m) (hF : FP m M') : Agr m (up M' 333 1 0) 0 := fun o ho => by
  rw [up_cell _ _ _ (by rw [LA_0]; omega)]
  exact hF.2.1 _ (Or.inl (by rw [LA_0]; omega))
theorem RN.lw {K : Nat} {m M' : Mem} (hJ : JA K m) (hF : FP m M') : LW (trM M') 1 := (cpLand_LW (i := 1) (i2 := 0) (by decide) ((RN.agr hJ hF).lw hJ.lw).1).1
theorem RN.tr {K : Nat} {m M' : Mem} (hJ : JA K m) (hF : FP m M') : ∀ c, (c < 31 ∨ 61 ≤ c) → c ≠ 333 → (trM M').1 c = M'.1 c := fun c hc h3 => by
  show (cpLand 1 0 (up M' 333 1 0)).1 c = _
  rw [cpLand_cell ((RN.agr hJ hF).lw hJ.lw).1.nl5 (by rw [LA_1]; omega), up_cell _ _ _ h3]
theorem RN.t3 {K : Nat} {m M' : Mem} (hJ : JA K m) (hF : FP m M') : (trM M').1 333 1 = 0 ∧ (trM M').1 333 2 = M'.1 333 2 := by
  have e : (trM M').1 333 = (up M' 333 1 0).1 333 := cpLand_cell ((RN.agr hJ hF).lw hJ.lw).1.nl5 (by rw [LA_1]; omega)
  rw [e]
  exact ⟨up_same _ _ _ _, up_slot _ _ _ (by decide)⟩
/-- the cells of the tried landscape's memory -/
theorem RN.run {K : Nat} {m M' : Mem} (hJ : JA K m) (hF : FP m M') {q : Nat} (hok : ∀ q2, q2 < q → okM M' q2) : (∀ c, (c < 31 ∨ 61 ≤ c) → (c < 333 ∨ c = 334 ∨ 360 ≤ c) → (runM M' q).1 c = m.1 c) ∧ (runM M' q).1 333 1 = 0 ∧ (runM M' q).1 333 2 = M'.1 333 2 := by
  obtain ⟨_, hc⟩ := run_ok (RN.lw hJ hF) q hok
  refine ⟨fun c h1 h2 => ?_, ?_, ?_⟩
  · rw [hc c h1, RN.tr hJ hF c h1 (by omega)]
    exact hF.2.1 c (by omega)
  · rw [hc 333 (by decide)]; exact (RN.t3 hJ hF).1
  · rw [hc 333 (by decide)]; exact (RN.t3 hJ hF).2
theorem RN.end {K : Nat} {m M' : Mem} (hJ : JA K m) (hF : FP m M') {q : Nat} (hok : ∀ q2, q2 < q → okM M' q2) : (∀ c, (c = 0 ∨ c = 334 ∨ 360 ≤ c) → (cpLand 0 1 (rem (runM M' q))).1 c = m.1 c) ∧ (cpLand 0 1 (rem (runM M' q))).1 333 1 = 0 ∧ (cpLand 0 1 (rem (runM M' q))).1 333 2 = M'.1 333 2 := by
  obtain ⟨r1, r2, r3⟩ := RN.run hJ hF hok
  have hL := (run_ok (RN.lw hJ hF) q hok).1
  have hI : CI (runM M' q) := (hJ.1.agr (fun k hk => r1 k (by omega) (by omega))).2.1
  have ha := rem_agr hI.1 (i := 1) (by omega)
  have h5 : nLk (rem (runM M' q)) 1 ≤ 5 := by rw [ha.nl]; exact hL.nl5
  have e : ∀ c, (c = 0 ∨ 333 ≤ c) → (cpLand 0 1 (rem (runM M' q))).1 c = (runM M' q).1 c := fun c hc => by
    rw [cpLand_cell h5 (by rw [LA_0]; omega)]
    exact remH_cell hI.1.nl5 (by have := LA_3 (hw (runM M' q)); have := hI.2.1.2.1; omega) (by omega)
  exact ⟨fun c hc => by rw [e c (by omega)]; exact r1 c (by omega) (by omega), by rw [e 333 (by decide)]; exact r2, by rw [e 333 (by decide)]; exact r3⟩
theorem RN.xi {K : Nat} {m M' : Mem} (hJ : JA K m) (hF : FP m M') {q : Nat} (hq : q ≤ 12) (hok : ∀ q2, q2 < q → okM M' q2) : XI (K + 4800) (cpLand 0 1 (rem (runM M' q))) := by
  obtain ⟨r1, _, _⟩ := RN.run hJ hF hok
  have hX : ∀ n, n ≤ q → XC (K + 400 * n) (runM M' n) 1 := by
    intro n
    induction n with
    | zero =>
      intro _
      have h0 := hJ.2.1.1.sm ((RN.agr hJ hF).sm hJ.lw.nl5)
      exact h0.sm (cpLand_sm (i := 1) (i2 := 0) (by decide) ((RN.agr hJ hF).lw hJ.lw).1.nl5)
    | succ n ih =>
      intro hn
      have hL := (run_ok (RN.lw hJ hF) n (fun q2 h => hok q2 (by omega))).1
      rw [show K + 400 * (n + 1) = K + 400 * n + 400 by omega]
      show XC (K + 400 * n + 400) (cmdM 1 (kdM M' n) (M'.1 (CM n + 1)) (runM M' n)) 1
      exact cmdM_XC (ih (by omega)) hL _ (hok n (by omega))
  have hL := (run_ok (RN.lw hJ hF) q hok).1
  have hk : ∀ k, (k < 31 ∨ (61 ≤ k ∧ k < 333)) → (runM M' q).1 k = m.1 k := fun k hk => r1 k (by omega) (by omega)
  have hI : CI (runM M' q) := (hJ.1.agr hk).2.1
  have hXI := (hJ.2.1.agr hJ.ci hk)
  have ha := rem_agr hI.1 (i := 1) (by omega)
  have h5 : nLk (rem (runM M' q)) 1 ≤ 5 := by rw [ha.nl]; exact hL.nl5
  refine hXI.ok hI ((((hX q (Nat.le_refl _)).sm (ha.sm hL.nl5)).sm (cpLand_sm (i := 0) (i2 := 1) (by decide) h5)).mono (by omega)) (by omega) (fun k hk => cpLand_cell h5 (by rw [LA_0]; omega))
theorem CI.agr2 {M M' : Mem} (hI : CI M) (hk : ∀ k, ((1 ≤ k ∧ k < 31) ∨ (61 ≤ k ∧ k < 333)) → M'.1 k = M.1 k) (h03 : M'.1 0 3 = M.1 0 3) : CI M' := by
  have a0 : Agr M M' 0 := fun o ho => hk _ (by rw [LA_0]; omega)
  have a2 : Agr M M' 2 := fun o ho => hk _ (by rw [LA_2]; omega)
  have a3 : ∀ w, w < 8 → Agr M M' (3 + w) := fun w hw o ho => hk _ (by have := LA_3 w; omega)
  have e1 : hw M' = hw M := by unfold hw; rw [hk 91 (by omega)]
  have e2 : hc M' = hc M := by unfold hc; rw [hk 91 (by omega)]
  refine ⟨(a0.lw hI.1).1, ?_, fun q hq => ?_, ?_⟩
  · rw [e1, e2]
    unfold HS
    rw [hk 91 (by omega)]
    exact hI.2.1
  · rw [e2] at hq
    rw [e1]
    exact ((a3 _ (by omega)).lw (hI.2.2.1 q hq)).1
  · rw [h03]
    exact hI.2.2.2.imp id (fun z => ⟨z.1, (a2.lw z.2).1⟩)
theorem JS.agr2 {m M M' : Mem} (h : JS m M) (hk : ∀ k, ((1 ≤ k ∧ k < 31) ∨ (61 ≤ k ∧ k < 333)) → M'.1 k = M.1 k) (h03 : M'.1 0 3 = M.1 0 3) : JS m M' := by
  obtain ⟨hG, hI, h6, hH, h5, hS⟩ := h
  have a0 : Agr M M' 0 := fun o ho => hk _ (by rw [LA_0]; omega)
  have a2 : Agr M M' 2 := fun o ho => hk _ (by rw [LA_2]; omega)
  have a3 : ∀ w, w < 8 → Agr M M' (3 + w) := fun w hw o ho => hk _ (by have := LA_3 w; omega)
  have e1 : hw M' = hw M := by unfold hw; rw [hk 91 (by omega)]
  have e2 : hc M' = hc M := by unfold hc; rw [hk 91 (by omega)]
  refine ⟨hG.sm (a0.sm hI.1.nl5), hI.agr2 hk h03, by rw [e2]; exact h6, fun q hq => ?_, by rw [h03]; exact h5, fun hs => ?_⟩
  · rw [e2] at hq
    rw [e1, e2]
    exact (hH q hq).sm ((a3 _ (by omega)).sm (hH q hq).1.2.1.nl5)
  · rw [h03] at hs
    exact (hS hs).sm (a2.sm (hS hs).1.2.1.nl5)
theorem XI.agr2 {K : Nat} {M M' : Mem} (h : XI K M) (hI : CI M) (hk : ∀ k, ((1 ≤ k ∧ k < 31) ∨ (61 ≤ k ∧ k < 333)) → M'.1 k = M.1 k) (h03 : M'.1 0 3 = M.1 0 3) : XI K M' := by
  have a0 : Agr M M' 0 := fun o ho => hk _ (by rw [LA_0]; omega)
  have a2 : Agr M M' 2 := fun o ho => hk _ (by rw [LA_2]; omega)
  have a3 : ∀ w, w < 8 → Agr M M' (3 + w) := fun w hw o ho => hk _ (by have := LA_3 w; omega)
  have e1 : hw M' = hw M := by unfold hw; rw [hk 91 (by omega)]
  have e2 : hc M' = hc M := by unfold hc; rw [hk 91 (by omega)]
  refine ⟨h.1.sm (a0.sm hI.1.nl5), fun q hq => ?_, fun hs => ?_⟩
  · rw [e2] at hq
    rw [e1]
    exact (h.2.1 q hq).sm ((a3 _ (by omega)).sm (hI.2.2.1 q hq).nl5)
  · rw [h03] at hs
    rcases hI.2.2.2 with z | ⟨_, hL2⟩
    · rw [z] at hs; exact absurd hs (by decide)
    · exact (h.2.2 hs).sm (a2.sm hL2.nl5)
theorem JT.mk2 {m m2 : Mem} (h : JT m) (e2 : m2.2 = m.2) (e : ∀ k, k = 334 ∨ k = 360 ∨ k = 361 ∨ k = 370 ∨ k = 371 → m2.1 k = m.1 k) (h1 : m2.1 333 1 = 0) (h2 : ∃ p, m2.1 333 2 = nI p ∧ p ≤ 60) (e12 : m2.1 363 12 = 0) (e14 : m2.1 363 14 = m.1 363 14) (e7 : m2.1 363 7 = m2.1 0 6) (e8 : m2.1 363 8 = m2.1 0 7) (e9 : ¬ m2.1 0 7 = -1 → m2.1 363 9 = m2.1 0 8) (f1 : fits .char (.int (m2.1 0 8)) = true) (f2 : fits .char (.int (m2.1 363 9)) = true) : JT m2 := by
  obtain ⟨_, _, a3, _, _, _, _, _, l, h9, h10, h11, h12, h13⟩ := h
  have etN : tN m2 = 0 := by unfold tN; rw [h1]; rfl
  obtain ⟨p, p1, p2⟩ := h2
  refine ⟨⟨by rw [etN]; exact h1, by omega, p, p1, p2⟩, by rw [etN]; exact e12, by rw [e 370 (by decide), e 334 (by decide)]; exact a3, e7, e8, e9, f1, f2, l, ?_, ?_, e14.trans h11, h12, h13⟩
  · unfold LT SW at h9 ⊢; rw [e 360 (by decide), e 361 (by decide), e2]; exact h9
  · unfold LR at h10 ⊢; rw [e 371 (by decide)]; exact h10
theorem cmds_pos {T : Nat → Int32} {N : Nat} : ∀ f p acc, p ≤ N → (cmdsS T N f p acc).2.1 ≤ N
  | 0, p, acc, h => h
  | f + 1, p, acc, h => by
    by_cases h7 : kOf T N p = 7
    · rw [show cmdsS T N (f + 1) p acc = (false, p, acc) from if_pos h7]; exact h
    · have hk : kOf T N p < 7 := by
        unfold kOf at h7 ⊢
        repeat' split
        all_goals first | decide | skip
        all_goals simp_all
      obtain ⟨r, hr⟩ : ∃ r, r = formS T N (frm (kOf T N p)) (p, []) := ⟨_, rfl⟩
      have ha := (formS_adv (T := T) (frm (kOf T N p)) (p, []) h).2
      rw [← hr] at ha
      rw [cmds_step hk hr.symm]
      split
      · split
        · exact ha
        · split
          · rename_i hs
            exact cmds_pos f _ _ (by have := (stB_lt hs).1; omega)
          · exact ha
      · exact ha
theorem up_two (m : Mem) (k f : Nat) (v : Int32) : (up m k f v).2 = m.2 := rfl
theorem two_end (M' : Mem) (n : Nat) : (cpLand 0 1 (rem (runM M' n))).2 = M'.2 := (two_cpLand 0 1 (rem (runM M' n))).trans ((two_rem (runM M' n)).trans (two_run M' n))
theorem okF_char {f : Int32} (h : okF f) : fits .char (.int f) = true := okF_fits h

theorem w_run {g : xG} (hG : GK g) {z : xE} (hE : GE g z) {K : Nat} {m : Mem} (hJ : JA K m) : CC g yL_run (.codeWith yL_run cL_run 3 (some .int) [(0, 8, 11, 13), (0, 8, 14, 15)]) (9 + 1) 1 6 [.ref (ad g 0), .ref (ad g 373)] m (rI (fun v mA => ∃ M', RN m M' v mA)) noX := by
  refine (c_L_run hG (c_X9_run hG hE hJ.ci hJ.2.2.1) (fun E m' h => h.imp (fun q => q.1) (fun q => q.1))).imp (fun r m' hq => ?_) (fun _ _ h => h)
  obtain ⟨v, e, hq⟩ := hq
  refine ⟨v, e, ?_⟩
  rcases hq with ⟨rfl, r0, m1, ⟨hR, M', hP, hok, rfl, rfl⟩, rfl⟩ | ⟨rfl, hx⟩ | ⟨rfl, hx⟩
  · exact ⟨M', hP, Or.inr (Or.inl ⟨hR, rfl, hok, rfl⟩)⟩
  · rcases hx with ⟨_, hR, M', hP, hm⟩ | ⟨z, _⟩
    · exact ⟨M', hP, Or.inl ⟨hR, rfl, hm⟩⟩
    · exact absurd z (by decide)
  · rcases hx with ⟨z, _⟩ | ⟨_, hR, M', q, hP, h1, h2, h3, hm⟩
    · exact absurd z (by decide)
    · exact ⟨M', hP, Or.inr (Or.inr ⟨hR, rfl, q, h1, h2, h3, hm⟩)⟩
theorem n_run {g : xG} (hG : GK g) {z : xE} (hE : GE g z) {K : Nat} {m mA : Mem} (hJ : JA K m) {v : Int32} (hw : ∃ M', RN m M' v mA) : CC g yX10_run (.code yX10_run cX10_run 3 (some .int)) 12 0 0 [.ref (ad g 363)] mA (rI (fun b m2 => LOut (K + 5000) v b m2)) noX := by
  obtain ⟨M', hP, hw⟩ := hw
  have hF := hP.2.1
  have h60 := hJ.2.2.1.2.1
  have epos : M'.1 333 2 = nI (runR m).2.1 := hP.1
  have hpos : (runR m).2.1 ≤ 60 := Nat.le_trans (cmds_pos 12 0 [] (Nat.zero_le _)) h60
  have hbig : ∀ k, 360 ≤ k → k ≠ 373 → mA.1 k = m.1 k := fun k hk h3 => by
    rcases hw with ⟨_, _, rfl⟩ | ⟨_, _, hok, rfl⟩ | ⟨_, _, q, _, hok, _, rfl⟩
    · rw [up_cell _ _ _ (by omega), up_cell _ _ _ (by omega)]; exact hF.2.1 k (by omega)
    · rw [up_cell _ _ _ h3]; exact (RN.end hJ hF hok).1 k (by omega)
    · rw [up_cell _ _ _ (by omega), up_cell _ _ _ (by omega)]; exact (RN.run hJ hF hok).1 k (by omega) (by omega)
  have h334 : mA.1 334 = m.1 334 := by
    rcases hw with ⟨_, _, rfl⟩ | ⟨_, _, hok, rfl⟩ | ⟨_, _, q, _, hok, _, rfl⟩
    · rw [up_cell _ _ _ (by decide), up_cell _ _ _ (by decide)]; exact hF.2.1 334 (by decide)
    · rw [up_cell _ _ _ (by decide)]; exact (RN.end hJ hF hok).1 334 (by decide)
    · rw [up_cell _ _ _ (by decide), up_cell _ _ _ (by decide)]; exact (RN.run hJ hF hok).1 334 (by decide) (by decide)
  have htwo : mA.2 = m.2 := by
    rcases hw with ⟨_, _, rfl⟩ | ⟨_, _, hok, rfl⟩ | ⟨_, _, q, _, hok, _, rfl⟩
    · rw [up_two, up_two]; exact hF.1
    · rw [up_two, two_end]; exact hF.1
    · rw [up_two, up_two, two_run]; exact hF.1
  have hJA : JS mA m := hJ.1.mem (hbig _ (by decide) (by decide)) (by rw [hbig 363 (by decide) (by decide)]) (by rw [hbig 363 (by decide) (by decide)]) (hbig _ (by decide) (by decide)) (hbig _ (by decide) (by decide))
  have h12 : mA.1 363 12 = nI (tN m) := by rw [hbig 363 (by decide) (by decide)]; exact hJ.2.2.2.1
  have hR : cmdsS (mA.1 370) (tN m) 12 0 [] = runR m := by rw [hbig 370 (by decide) (by decide), hJ.2.2.2.2.1]
  refine (c_X10_run hG hE hJA h12 h60 hR hF (fun h => (hP.2.2 h).1) (RN.lw hJ hF)).imp (fun r m' hq => ?_) (fun _ _ h => h)
  obtain ⟨b, e, ⟨f1, f2, f3, f4⟩, hq⟩ := hq
  refine ⟨b, e, ?_⟩
  have efr : ∀ k, k = 334 ∨ k = 360 ∨ k = 361 ∨ k = 370 ∨ k = 371 → m'.1 k = m.1 k := fun k hk => by
    rw [f2 k (by omega) (by omega) (by omega) (by omega) (by omega) (by omega)]
    rcases hk with rfl | hk
    · exact h334
    · exact hbig k (by omega) (by omega)
  have e0 : m'.1 0 = mA.1 0 := f2 0 (by decide) (by decide) (by decide) (by decide) (by decide) (by decide)
  have e333 : m'.1 333 = mA.1 333 := f2 333 (by decide) (by decide) (by decide) (by decide) (by decide) (by decide)
  have e373 : m'.1 373 = mA.1 373 := f2 373 (by decide) (by decide) (by decide) (by decide) (by decide) (by decide)
  have e14 : m'.1 363 14 = m.1 363 14 := (f3 14 (by decide) (by decide) (by decide) (by decide) (by decide) (by decide) (by decide)).trans (congrFun (hbig 363 (by decide) (by decide)) 14)
  have hcell : ∀ k, k < 333 → m'.1 k = mA.1 k := fun k hk => f2 k (by omega) (by omega) (by omega) (by omega) (by omega) (by omega)
  have a7 : mA.1 363 7 = m.1 0 6 := (congrFun (hbig 363 (by decide) (by decide)) 7).trans hJ.2.2.2.2.2.1
  have a8 : mA.1 363 8 = m.1 0 7 := (congrFun (hbig 363 (by decide) (by decide)) 8).trans hJ.2.2.2.2.2.2.1
  have a9 : mA.1 363 9 = m.1 363 9 := congrFun (hbig 363 (by decide) (by decide)) 9
  rcases hw with ⟨hRf, hv, hA⟩ | ⟨hRt, hv, hok, hA⟩ | ⟨hRt, hv, q, hq1, hq2, hq3, hA⟩
  · rcases hq with ⟨_, hb, h15, h7, _, h8, h9, hJ2⟩ | ⟨z, _⟩ | ⟨z, _⟩
    · have hkk : ∀ k, ((1 ≤ k ∧ k < 31) ∨ (61 ≤ k ∧ k < 333)) → m'.1 k = m.1 k := fun k hk => by
        rw [hcell k (by omega), hA, up_cell _ _ _ (by omega), up_cell _ _ _ (by omega)]
        exact hF.2.1 k (by omega)
      have h0A : ∀ f, f ≠ 6 → mA.1 0 f = m.1 0 f := fun f hf => by
        rw [hA, up_slot _ _ _ hf, up_cell _ _ _ (by decide), hF.2.1 0 (by decide)]
      have h06 : mA.1 0 6 = nI (runR m).2.1 := by rw [hA, up_same]
      have hJT : JT m' := hJ.2.2.mk2 (f1.trans htwo) efr (by rw [e333, hA, up_cell _ _ _ (by decide), up_same]) ⟨_, by rw [e333, hA, up_cell _ _ _ (by decide), up_slot _ _ _ (by decide)]; exact epos, hpos⟩ f4 e14 (by rw [h7, e0, h06]) (by rw [h8, a8, e0, h0A 7 (by decide)]) (by rw [e0, h0A 7 (by decide), h9, a9, h0A 8 (by decide)]; exact hJ.2.2.2.2.2.2.2.1) (by rw [e0, h0A 8 (by decide)]; exact hJ.2.2.2.2.2.2.2.2.1) (by rw [h9, a9]; exact hJ.2.2.2.2.2.2.2.2.2.1)
      have h03 : m'.1 0 3 = m.1 0 3 := by rw [e0, h0A 3 (by decide)]
      exact ⟨⟨hJ2.agr2 hkk h03, (hJ.2.1.agr2 hJ.ci hkk h03).mono (by omega), hJT⟩, h15.trans hv.symm, fun z => by rw [hv] at z; exact absurd z (by decide)⟩
    · rw [hRf] at z; exact absurd z (by decide)
    · rw [hRf] at z; exact absurd z (by decide)
  · rcases hq with ⟨z, _⟩ | ⟨_, _, hb, h15, h7, h8, h9, hJ2⟩ | ⟨_, q, hq1, _, hq3, _⟩
    · rw [hRt] at z; exact absurd z (by decide)
    · obtain ⟨r1, r2, r3⟩ := RN.end hJ hF hok
      have hlen := (hP.2.2 hRt).2.2
      have hXI := RN.xi hJ hF hlen hok
      obtain ⟨X, hX⟩ : ∃ X, X = cpLand 0 1 (rem (runM M' (runR m).2.2.length)) := ⟨_, rfl⟩
      rw [← hX] at hA hJ2 hXI r1 r2 r3
      have hAk : ∀ k, k ≠ 373 → mA.1 k = X.1 k := fun k hk => by rw [hA, up_cell _ _ _ hk]
      have h0 : m'.1 0 = m.1 0 := by rw [e0, hAk 0 (by decide)]; exact r1 0 (by decide)
      have hJT : JT m' := hJ.2.2.mk2 (f1.trans htwo) efr (by rw [e333, hAk 333 (by decide)]; exact r2) ⟨_, by rw [e333, hAk 333 (by decide), r3]; exact epos, hpos⟩ f4 e14 (by rw [h7, a7, h0]) (by rw [h8, a8, h0]) (by rw [h0, h9, a9]; exact hJ.2.2.2.2.2.2.2.1) (by rw [h0]; exact hJ.2.2.2.2.2.2.2.2.1) (by rw [h9, a9]; exact hJ.2.2.2.2.2.2.2.2.2.1)
      have hkk : ∀ k, (k < 31 ∨ (61 ≤ k ∧ k < 333)) → m'.1 k = X.1 k := fun k hk => (hcell k (by omega)).trans (hAk k (by omega))
      exact ⟨⟨hJ2.agr hkk, (hXI.agr hJ2.2.1 hkk).mono (by omega), hJT⟩, h15.trans hv.symm, fun _ => by rw [e373, hA, up_same, hb]⟩
    · exact absurd (hok q hq1) hq3
  · rcases hq with ⟨z, _⟩ | ⟨_, z, _⟩ | ⟨_, q', hq1', hq2', hq3', hb, h15, h7, h8, h9, hJ2⟩
    · rw [hRt] at z; exact absurd z (by decide)
    · exact absurd (z q hq1) hq3
    · have hqq : q' = q := by
        rcases Nat.lt_trichotomy q' q with z | z | z
        · exact absurd (hq2 q' z) hq3'
        · exact z
        · exact absurd (hq2' q z) hq3
      subst hqq
      obtain ⟨r1, r2, r3⟩ := RN.run hJ hF hq2
      have hAk : ∀ k, k ≠ 0 → mA.1 k = (runM M' q').1 k := fun k hk => by rw [hA, up_cell _ _ _ hk, up_cell _ _ _ hk]
      have h0A : ∀ f, f ≠ 7 → f ≠ 8 → mA.1 0 f = m.1 0 f := fun f a b => by
        rw [hA, up_slot _ _ _ b, up_slot _ _ _ a, r1 0 (by decide) (by decide)]
      have h07 : mA.1 0 7 = nI q' := by rw [hA, up_slot _ _ _ (by decide), up_same]
      have h08 : mA.1 0 8 = cmdF (runM M' q') 1 (kdM M' q') (M'.1 (CM q' + 1)) := by rw [hA, up_same]
      have hff := okF_char (cmdF_in (runM M' q') 1 (kdM M' q') (M'.1 (CM q' + 1)))
      have hJT : JT m' := hJ.2.2.mk2 (f1.trans htwo) efr (by rw [e333, hAk 333 (by decide)]; exact r2) ⟨_, by rw [e333, hAk 333 (by decide), r3]; exact epos, hpos⟩ f4 e14 (by rw [h7, a7, e0, h0A 6 (by decide) (by decide)]) (by rw [h8, e0, h07]) (fun _ => by rw [h9, e0, h08]) (by rw [e0, h08]; exact hff) (by rw [h9]; exact hff)
      have hkk : ∀ k, ((1 ≤ k ∧ k < 31) ∨ (61 ≤ k ∧ k < 333)) → m'.1 k = m.1 k := fun k hk => by
        rw [hcell k (by omega), hAk k (by omega)]
        exact r1 k (by omega) (by omega)
      have h03 : m'.1 0 3 = m.1 0 3 := by rw [e0, h0A 3 (by decide) (by decide)]
      exact ⟨⟨hJ2.agr2 hkk h03, (hJ.2.1.agr2 hJ.ci hkk h03).mono (by omega), hJT⟩, h15.trans hv.symm, fun z => by rw [hv] at z; exact absurd z (by decide)⟩
