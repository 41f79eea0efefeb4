/-! each call of both: the others but run -/
theorem w_pitch {g : xG} (hG : GK g) {K : Nat} {m : Mem} (hJ : JA K m) {x y : Int32} : CC g yL_pitch (.codeWith yL_pitch cL_pitch 5 (some .int) [(0, 10, 13, 21), (0, 10, 17, 23)]) (4 + 1) 1 6 [.ref (ad g 0), .int x, .int y, .ref (ad g 373)] m (rI (WK m (ringF m 0 x y = 45) (fun t => cStr (ringF m 0 x y) t) (pitchV (m.1 (LK 0 x.toNatClampNeg + 1)) (m.1 (LK 0 x.toNatClampNeg + 2)) y.toNatClampNeg))) noX := by
  refine (c_L_pitch hG (c_X9_pitch hG hJ.ci) (fun E m' h => ?_)).imp (fun r m' hq => ?_) (fun _ _ h => h)
  · rcases faultE_inv h.1 with ⟨e, rfl⟩ | ⟨e, rfl⟩ | ⟨e, rfl⟩ | ⟨e, rfl⟩
    · exact Or.inl (rfl)
    · rcases ringF_cs m 0 x y with q | q | q <;> (rw [q] at e; exact absurd e (by decide))
    · rcases ringF_cs m 0 x y with q | q | q <;> (rw [q] at e; exact absurd e (by decide))
    · exact Or.inr (rfl)
  · obtain ⟨v, e, hq⟩ := hq
    refine ⟨v, e, ?_⟩
    rcases hq with ⟨rfl, r0, m1, ⟨hf, rfl, rfl⟩, rfl⟩ | ⟨rfl, hx, rfl⟩ | ⟨rfl, hx, rfl⟩
    · exact Or.inl ⟨hf, rfl, rfl⟩
    · exact Or.inr ⟨Or.inl ⟨fault_IO hx, rfl⟩, rfl⟩
    · exact Or.inr ⟨Or.inr ⟨fault_UO hx, rfl⟩, rfl⟩
theorem n_pitch {g : xG} (hG : GK g) {K : Nat} {m mA : Mem} (hJ : JA K m) {x y v : Int32} (hw : WK m (ringF m 0 x y = 45) (fun t => cStr (ringF m 0 x y) t) (pitchV (m.1 (LK 0 x.toNatClampNeg + 1)) (m.1 (LK 0 x.toNatClampNeg + 2)) y.toNatClampNeg) v mA) : CC g yX10_pitch (.code yX10_pitch cX10_pitch 4 (some .int)) 7 0 0 [.ref (ad g 363), .int x, .int y] mA (rI (fun b m2 => LOut (K + 400) v b m2)) noX := by
  refine (c_X10_pitch hG (hJ.rmr hw.rd) hJ.xl.1).imp (fun r m' hq => ?_) (fun _ _ h => h)
  obtain ⟨b, e, hq⟩ := hq
  refine ⟨b, e, hw.fin (hJ.mono (by omega)) (fun hc t h => ?_) (fun t t' h h' => ?_) (fun t h => ?_) (hq.imp id (fun h => h.2))⟩
  · rcases h with ⟨z, _⟩ | ⟨z, _⟩ <;> exact absurd (hc.symm.trans z) (by decide)
  · rcases h with ⟨z, q⟩ | ⟨z, q⟩ <;> rcases h' with ⟨z2, q2⟩ | ⟨z2, q2⟩ <;> first | exact q.trans q2.symm | exact absurd (z.symm.trans z2) (by decide)
  · rcases h with ⟨_, z⟩ | ⟨_, z⟩ <;> (rw [z]; decide)
theorem w_layerAt {g : xG} (hG : GK g) {K : Nat} {m : Mem} (hJ : JA K m) {x z : Int32} : CC g yL_layerAt (.codeWith yL_layerAt cL_layerAt 5 (some .int) [(0, 10, 13, 21), (0, 10, 17, 50)]) (3 + 1) 2 12 [.ref (ad g 0), .int x, .int z, .ref (ad g 373)] m (rI (WK m (inL m x ∧ ¬ (lcV (m.1 (LK 0 x.toNatClampNeg + 1)) z (nLy m 0 x.toNatClampNeg)) = -1) (fun t => (¬ inL m x ∧ t = 1) ∨ (inL m x ∧ (lcV (m.1 (LK 0 x.toNatClampNeg + 1)) z (nLy m 0 x.toNatClampNeg)) = -1 ∧ t = 2)) (lcV (m.1 (LK 0 x.toNatClampNeg + 1)) z (nLy m 0 x.toNatClampNeg)))) noX := by
  refine (c_L_layerAt hG (c_X9_layerAt hG hJ.ci) (fun E m' h => h.1.imp (fun q => q.1) (fun q => q.1))).imp (fun r m' hq => ?_) (fun _ _ h => h)
  obtain ⟨v, e, hq⟩ := hq
  refine ⟨v, e, ?_⟩
  rcases hq with ⟨rfl, r0, m1, ⟨hc, rfl, hn, rfl⟩, rfl⟩ | ⟨rfl, hx, rfl⟩ | ⟨rfl, hx, rfl⟩
  · exact Or.inl ⟨⟨hc, hn⟩, rfl, rfl⟩
  · rcases hx with ⟨_, h⟩ | ⟨z, _⟩
    · exact Or.inr ⟨Or.inl ⟨h, rfl⟩, rfl⟩
    · exact absurd z (by decide)
  · rcases hx with ⟨z, _⟩ | ⟨_, h1, h2⟩
    · exact absurd z (by decide)
    · exact Or.inr ⟨Or.inr ⟨h1, h2, rfl⟩, rfl⟩
theorem n_layerAt {g : xG} (hG : GK g) {K : Nat} {m mA : Mem} (hJ : JA K m) {x z v : Int32} (hw : WK m (inL m x ∧ ¬ (lcV (m.1 (LK 0 x.toNatClampNeg + 1)) z (nLy m 0 x.toNatClampNeg)) = -1) (fun t => (¬ inL m x ∧ t = 1) ∨ (inL m x ∧ (lcV (m.1 (LK 0 x.toNatClampNeg + 1)) z (nLy m 0 x.toNatClampNeg)) = -1 ∧ t = 2)) (lcV (m.1 (LK 0 x.toNatClampNeg + 1)) z (nLy m 0 x.toNatClampNeg)) v mA) : CC g yX10_layerAt (.code yX10_layerAt cX10_layerAt 6 (some .int)) 6 0 0 [.ref (ad g 363), .int x, .int z] mA (rI (fun b m2 => LOut (K + 400) v b m2)) noX := by
  refine (c_X10_layerAt hG (hJ.rmr hw.rd)).imp (fun r m' hq => ?_) (fun _ _ h => h)
  obtain ⟨b, e, hq⟩ := hq
  refine ⟨b, e, hw.fin (hJ.mono (by omega)) (fun hc t h => ?_) (fun t t' h h' => ?_) (fun t h => ?_) ?_⟩
  · rcases h with ⟨z, _⟩ | ⟨_, z, _⟩
    · exact z hc.1
    · exact hc.2 z
  · rcases h with ⟨z, q⟩ | ⟨z, _, q⟩ <;> rcases h' with ⟨z2, q2⟩ | ⟨z2, _, q2⟩ <;> first | exact q.trans q2.symm | exact absurd z2 z | exact absurd z z2
  · rcases h with ⟨_, z⟩ | ⟨_, _, z⟩ <;> (rw [z]; decide)
  · rcases hq with ⟨h1, h2, h3, h4⟩ | ⟨_, h⟩
    · exact Or.inl ⟨⟨h1, fun z => h3 (h2.trans z)⟩, h2, h4⟩
    · exact Or.inr h
theorem w_lakeAtRank {g : xG} (hG : GK g) {K : Nat} {m : Mem} (hJ : JA K m) {x : Int32} : CC g yL_lakeAtRank (.codeWith yL_lakeAtRank cL_lakeAtRank 4 (some .int) [(0, 9, 12, 50)]) (6 + 1) 1 6 [.ref (ad g 0), .int x, .ref (ad g 373)] m (rI (WA m (¬ (firstI (fun q => decide (nI (rankN m 0 q (nLk m 0)) = x)) (nLk m 0)) = -1) (firstI (fun q => decide (nI (rankN m 0 q (nLk m 0)) = x)) (nLk m 0)))) noX := by
  refine (c_L_lakeAtRank hG (c_X9_lakeAtRank hG hJ.ci) (fun E m' h => h.1)).imp (fun r m' hq => ?_) (fun _ _ h => h)
  obtain ⟨v, e, hq⟩ := hq
  refine ⟨v, e, ?_⟩
  rcases hq with ⟨rfl, r0, m1, ⟨rfl, hc, rfl⟩, rfl⟩ | ⟨rfl, _, hn, rfl⟩
  · exact Or.inl ⟨hc, rfl, rfl⟩
  · exact Or.inr ⟨fun z => z hn, rfl, rfl⟩
theorem n_lakeAtRank {g : xG} (hG : GK g) {K : Nat} {m mA : Mem} (hJ : JA K m) (hK : K ≤ 1000000000) {x v : Int32} (hw : WA m (¬ (firstI (fun q => decide (nI (rankN m 0 q (nLk m 0)) = x)) (nLk m 0)) = -1) (firstI (fun q => decide (nI (rankN m 0 q (nLk m 0)) = x)) (nLk m 0)) v mA) : CC g yX10_lakeAtRank (.code yX10_lakeAtRank cX10_lakeAtRank 8 (some .int)) 7 0 0 [.ref (ad g 363), .int x] mA (rI (fun b m2 => LOut (K + 400) v b m2)) noX := by
  refine (c_X10_lakeAtRank hG (hJ.rmr hw.rd) hJ.xl hK hJ.2.1.1 (n := nLk m 0) rfl rfl).imp (fun r m' hq => ?_) (fun _ _ h => h)
  obtain ⟨b, e, hq⟩ := hq
  refine ⟨b, e, hw.fin (hJ.mono (by omega)) ?_⟩
  rcases hq with ⟨h1, h2, h3⟩ | ⟨h1, h2, h3⟩
  · exact Or.inl ⟨h1, h2, h3⟩
  · exact Or.inr ⟨fun z => z h1, h2, h3⟩
theorem tri_rd {m : Mem} (hL : LW m 0) (n : Nat) : RD m (hoursM 1 (cpLand 1 0 m) n) := by
  have h1 := (cpLand_LW (i := 1) (i2 := 0) (by decide) hL).1
  refine RD.tri ((two_hours 1 _ n).trans (two_cpLand 1 0 m)) (fun k hk => ?_)
  rw [hoursM_cell h1 (by rw [LA_1]; omega) n]
  exact cpLand_cell hL.nl5 (by rw [LA_1]; omega)
theorem JA.mft {K : Nat} {m mA m2 : Mem} (h : JA K m) (hr : RD m mA) (hJ2 : JS m2 m) (hF : MFt mA m2) : JA K m2 :=
  h.fin hJ2 h.2.1 (hr.tr.trans (TR.mft hF)) (fun k hk => (hF.2.1 k (by omega) (by omega) (by omega) (by omega)).trans (hr.k k hk))
abbrev crN (m : Mem) (p : Nat) : Nat := hourN 1 (hoursM 1 (cpLand 1 0 m) p)
def WHc (m : Mem) (v : Int32) (mA : Mem) : Prop := RD m mA ∧ ((v = 0 ∧ ∃ n, n < 96 ∧ (∀ p, p < n → crN m p = 0) ∧ 0 < crN m n ∧ mA.1 373 0 = nI (n + 1)) ∨ (v = 1 ∧ ∀ p, p < 96 → crN m p = 0))
abbrev thN (m : Mem) (j p : Nat) : Nat := nLy (hoursM 1 (cpLand 1 0 m) (p + 1)) 1 j
def WHt (m : Mem) (x v : Int32) (mA : Mem) : Prop := RD m mA ∧ ((v = 0 ∧ inL m x ∧ ((nLy m 0 x.toNatClampNeg = 0 ∧ mA.1 373 0 = 0) ∨ (¬ nLy m 0 x.toNatClampNeg = 0 ∧ ∃ n, n < 96 ∧ (∀ p, p < n → ¬ thN m x.toNatClampNeg p = 0) ∧ thN m x.toNatClampNeg n = 0 ∧ mA.1 373 0 = nI (n + 1)))) ∨ (v = 1 ∧ ¬ inL m x) ∨ (v = 2 ∧ inL m x ∧ ¬ nLy m 0 x.toNatClampNeg = 0 ∧ ∀ p, p < 96 → ¬ thN m x.toNatClampNeg p = 0))
theorem w_hoursUntilCrack {g : xG} (hG : GK g) {K : Nat} {m : Mem} (hJ : JA K m) : CC g yL_hoursUntilCrack (.codeWith yL_hoursUntilCrack cL_hoursUntilCrack 3 (some .int) [(0, 8, 11, 50)]) (6 + 1) 1 6 [.ref (ad g 0), .ref (ad g 373)] m (rI (WHc m)) noX := by
  refine (c_L_hoursUntilCrack hG (c_X9_hoursUntilCrack hG hJ.ci) (fun E m' h => h.1)).imp (fun r m' hq => ?_) (fun _ _ h => h)
  obtain ⟨v, e, hq⟩ := hq
  refine ⟨v, e, ?_⟩
  rcases hq with ⟨rfl, r0, m1, ⟨n, h1, h2, h3, h4, h5⟩, rfl⟩ | ⟨rfl, _, h1, h2⟩
  · exact ⟨(h5 ▸ tri_rd hJ.lw (n + 1)).trans (RD.out _ _), Or.inl ⟨rfl, n, h1, h3, h4, (up_same _ _ _ _).trans h2⟩⟩
  · exact ⟨h2 ▸ tri_rd hJ.lw 96, Or.inr ⟨rfl, h1⟩⟩
theorem n_hoursUntilCrack {g : xG} (hG : GK g) {K : Nat} {m mA : Mem} (hJ : JA K m) {v : Int32} (hw : WHc m v mA) : CC g yX10_hoursUntilCrack (.code yX10_hoursUntilCrack cX10_hoursUntilCrack 3 (some .int)) 9 0 0 [.ref (ad g 363)] mA (rI (fun b m2 => LOut (K + 400) v b m2)) noX := by
  refine (c_X10_hoursUntilCrack hG (hJ.1.rdj hw.1)).imp (fun r m' hq => ?_) (fun _ _ h => h)
  obtain ⟨b, e, hq, hJ2, hF⟩ := hq
  refine ⟨b, e, (hJ.mft hw.1 hJ2 hF).mono (by omega), ?_⟩
  have e373 : m'.1 373 = mA.1 373 := hF.2.1 373 (by decide) (by decide) (by decide) (by decide)
  rcases hw.2 with ⟨hv, n, h1, h2, h3, h4⟩ | ⟨hv, h1⟩ <;> rcases hq with ⟨n', q1, q2, q3, q4, q5⟩ | ⟨q1, q2, q3⟩
  · have hn : n = n' := by
      rcases Nat.lt_trichotomy n n' with z | z | z
      · exact absurd (q3 n z) (Nat.ne_of_gt h3)
      · exact z
      · exact absurd (h2 n' z) (Nat.ne_of_gt q4)
    exact ⟨q5.trans hv.symm, fun _ => by rw [e373, h4, q2, hn]⟩
  · exact absurd (q1 n h1) (Nat.ne_of_gt h3)
  · exact absurd (h1 n' q1) (Nat.ne_of_gt q4)
  · exact ⟨q3.trans hv.symm, fun z => by rw [hv] at z; exact absurd z (by decide)⟩
theorem w_hoursUntilThawed {g : xG} (hG : GK g) {K : Nat} {m : Mem} (hJ : JA K m) {x : Int32} : CC g yL_hoursUntilThawed (.codeWith yL_hoursUntilThawed cL_hoursUntilThawed 4 (some .int) [(0, 9, 12, 21), (0, 9, 15, 50)]) (6 + 1) 2 12 [.ref (ad g 0), .int x, .ref (ad g 373)] m (rI (WHt m x)) noX := by
  refine (c_L_hoursUntilThawed hG (c_X9_hoursUntilThawed hG hJ.ci) (fun E m' h => h.imp (fun q => q.1) (fun q => q.1))).imp (fun r m' hq => ?_) (fun _ _ h => h)
  obtain ⟨v, e, hq⟩ := hq
  refine ⟨v, e, ?_⟩
  rcases hq with ⟨rfl, r0, m1, ⟨hi, hq⟩, rfl⟩ | ⟨rfl, hx⟩ | ⟨rfl, hx⟩
  · rcases hq with ⟨h1, h2, h3⟩ | ⟨h0, n, h1, h2, h3, h4, h5⟩
    · exact ⟨h3 ▸ RD.out _ _, Or.inl ⟨rfl, hi, Or.inl ⟨h1, (up_same _ _ _ _).trans h2⟩⟩⟩
    · exact ⟨(h5 ▸ tri_rd hJ.lw (n + 1)).trans (RD.out _ _), Or.inl ⟨rfl, hi, Or.inr ⟨h0, n, h1, h3, h4, (up_same _ _ _ _).trans h2⟩⟩⟩
  · rcases hx with ⟨_, h, hm⟩ | ⟨z, _⟩
    · exact ⟨hm ▸ RD.refl _, Or.inr (Or.inl ⟨rfl, h⟩)⟩
    · exact absurd z (by decide)
  · rcases hx with ⟨z, _⟩ | ⟨_, h1, h2, hm⟩
    · exact absurd z (by decide)
    · exact ⟨hm ▸ tri_rd hJ.lw 96, Or.inr (Or.inr ⟨rfl, h1.1, h1.2, h2⟩)⟩
theorem n_hoursUntilThawed {g : xG} (hG : GK g) {K : Nat} {m mA : Mem} (hJ : JA K m) {x v : Int32} (hw : WHt m x v mA) : CC g yX10_hoursUntilThawed (.code yX10_hoursUntilThawed cX10_hoursUntilThawed 5 (some .int)) 9 0 0 [.ref (ad g 363), .int x] mA (rI (fun b m2 => LOut (K + 400) v b m2)) noX := by
  refine (c_X10_hoursUntilThawed hG (hJ.1.rdj hw.1)).imp (fun r m' hq => ?_) (fun _ _ h => h)
  obtain ⟨b, e, hq, hJ2, hF⟩ := hq
  refine ⟨b, e, (hJ.mft hw.1 hJ2 hF).mono (by omega), ?_⟩
  have e373 : m'.1 373 = mA.1 373 := hF.2.1 373 (by decide) (by decide) (by decide) (by decide)
  rcases hw.2 with ⟨hv, hi, hc⟩ | ⟨hv, hi⟩ | ⟨hv, hi, h0, h1⟩
  · rcases hq with ⟨_, hq, q5⟩ | ⟨_, z, _⟩ | ⟨_, _, q0, q1, _⟩
    · refine ⟨q5.trans hv.symm, fun _ => ?_⟩
      rw [e373]
      rcases hc with ⟨c1, c2⟩ | ⟨c0, n, c1, c2, c3, c4⟩ <;> rcases hq with ⟨q1, q2⟩ | ⟨q0, n', q1, q2, q3, q4⟩
      · rw [c2, q2]
      · exact absurd c1 q0
      · exact absurd q1 c0
      · have hn : n = n' := by
          rcases Nat.lt_trichotomy n n' with z | z | z
          · exact absurd c3 (q3 n z)
          · exact z
          · exact absurd q4 (c2 n' z)
        rw [c4, q2, hn]
    · exact absurd hi z
    · rcases hc with ⟨c1, _⟩ | ⟨_, n, c1, _, c3, _⟩
      · exact absurd c1 q0
      · exact absurd c3 (q1 n c1)
  · rcases hq with ⟨z, _⟩ | ⟨_, _, q5⟩ | ⟨_, z, _⟩
    · exact absurd z hi
    · exact ⟨q5.trans hv.symm, fun z => by rw [hv] at z; exact absurd z (by decide)⟩
    · exact absurd z hi
  · rcases hq with ⟨_, hq, _⟩ | ⟨_, z, _⟩ | ⟨_, _, _, _, q5⟩
    · rcases hq with ⟨q1, _⟩ | ⟨_, n', q1, _, _, q4⟩
      · exact absurd q1 h0
      · exact absurd q4 (h1 n' q1)
    · exact absurd hi z
    · exact ⟨q5.trans hv.symm, fun z => by rw [hv] at z; exact absurd z (by decide)⟩
theorem JA.mfu {K : Nat} {m M2 mA m2 : Mem} (h : JA K m) (hc : CV m M2) (hA : ∀ k, k ≠ 373 → mA.1 k = M2.1 k) (hA2 : mA.2 = M2.2) (hJ2 : JS m2 M2) (hX : XI K M2) (hF : MFu mA m2) : JA K m2 := by
  have t : TR M2 mA := ⟨hA2, fun f _ _ => by rw [hA 0 (by decide)], fun k hk => hA k (by omega), fun f _ => by rw [hA 363 (by decide)]⟩
  exact h.fin hJ2 hX ((TR.cv hc).trans (t.trans (TR.mfu hF))) (fun k hk => (hF.2.1 k (by omega) (by omega) (by omega)).trans (hA k (by omega)))
theorem JS.cv {m M2 mA M : Mem} (h : JS m M) (hc : CV m M2) (hA : ∀ k, k ≠ 373 → mA.1 k = M2.1 k) : JS mA M := by
  have e : ∀ k, k = 363 ∨ k = 364 ∨ k = 367 ∨ k = 368 → mA.1 k = m.1 k := fun k hk => by rw [hA k (by omega)]; exact hc.2.1 k (by omega) (by omega)
  exact h.mem (e _ (by decide)) (by rw [e 363 (by decide)]) (by rw [e 363 (by decide)]) (e _ (by decide)) (e _ (by decide))
theorem CV.refl (m : Mem) : CV m m := ⟨rfl, fun _ _ _ => rfl, fun _ _ => rfl⟩
theorem CV.undo {m : Mem} (hI : CI m) (h0 : 0 < hc m) : CV m (undoM m) := CV.mk' (two_undo m) (fun k hk => undo_cell hI h0 (by omega) (by omega))
theorem CV.rest {m : Mem} (hS : LW m 2) : CV m (restM m) := CV.mk' (two_rest m) (fun k hk => rest_cell hS (by omega) (by omega))
theorem CV.save {m : Mem} (hI : CI m) : CV m (saveM m) := ⟨two_save m, fun k a _ => save_cell hI (by omega) (by omega), fun f hf => by
  unfold saveM
  rw [up_slot _ _ _ hf]
  exact congrFun (cpLand_cell hI.1.nl5 (by rw [LA_2]; omega)) f⟩
/-- the class's answer of undo, restore -/
def WU (m M2 : Mem) (c : Prop) (v0 v : Int32) (mA : Mem) : Prop := (v = 0 ∧ c ∧ mA = up M2 373 0 v0) ∨ (v = 1 ∧ ¬ c ∧ mA = m)
theorem up373 (m : Mem) (v : Int32) : ∀ k, k ≠ 373 → (up m 373 0 v).1 k = m.1 k := fun k h => up_cell _ _ _ h
theorem WU.js {K : Nat} {m M2 mA : Mem} {c : Prop} {v0 v : Int32} (hw : WU m M2 c v0 v mA) (hJ : JA K m) (hc : c → CV m M2) : JS mA m := by
  rcases hw with ⟨_, h, rfl⟩ | ⟨_, _, rfl⟩
  · exact hJ.1.cv (hc h) (up373 _ _)
  · exact hJ.1
theorem WU.fin {K : Nat} {m M2 mA m2 : Mem} {c : Prop} {v0 v b : Int32} (hw : WU m M2 c v0 v mA) (hJ : JA K m) (hc : c → CV m M2 ∧ XI K M2) (hb : ((c ∧ b = v0 ∧ m2.1 363 15 = 0 ∧ JS m2 M2) ∨ (¬ c ∧ b = 0 ∧ m2.1 363 15 = 1 ∧ JS m2 m)) ∧ MFu mA m2) : LOut K v b m2 := by
  obtain ⟨hb, hF⟩ := hb
  rcases hw with ⟨hv, h, hA⟩ | ⟨hv, h, hA⟩
  · rcases hb with ⟨_, hb, h15, hJ2⟩ | ⟨z, _⟩
    · refine ⟨hJ.mfu (hc h).1 (hA ▸ up373 _ _) (by rw [hA]; rfl) hJ2 (hc h).2 hF, h15.trans hv.symm, fun _ => ?_⟩
      rw [hF.2.1 373 (by decide) (by decide) (by decide), hA, up_same, hb]
    · exact absurd h z
  · rcases hb with ⟨z, _⟩ | ⟨_, _, h15, hJ2⟩
    · exact absurd z h
    · exact ⟨hJ.mfu (CV.refl m) (fun k _ => by rw [hA]) (by rw [hA]) hJ2 hJ.2.1 hF, h15.trans hv.symm, fun z => by rw [hv] at z; exact absurd z (by decide)⟩
theorem w_undo {g : xG} (hG : GK g) {K : Nat} {m : Mem} (hJ : JA K m) : CC g yL_undo (.codeWith yL_undo cL_undo 3 (some .int) [(0, 8, 11, 15)]) (4 + 1) 1 6 [.ref (ad g 0), .ref (ad g 373)] m (rI (WU m (undoM m) (0 < hc m) (nI (hc m - 1)))) noX := by
  refine (c_L_undo hG (c_X9_undo hG hJ.ci) (fun E m' h => h.1)).imp (fun r m' hq => ?_) (fun _ _ h => h)
  obtain ⟨v, e, hq⟩ := hq
  refine ⟨v, e, ?_⟩
  rcases hq with ⟨rfl, r0, m1, ⟨hc, rfl, rfl⟩, rfl⟩ | ⟨rfl, _, hn, rfl⟩
  · exact Or.inl ⟨rfl, hc, rfl⟩
  · refine Or.inr ⟨rfl, fun z => ?_, rfl⟩
    unfold hc at z
    rw [hn] at z
    exact absurd z (by decide)
theorem n_undo {g : xG} (hG : GK g) {K : Nat} {m mA : Mem} (hJ : JA K m) {v : Int32} (hw : WU m (undoM m) (0 < hc m) (nI (hc m - 1)) v mA) : CC g yX10_undo (.code yX10_undo cX10_undo 1 (some .int)) 3 0 0 [.ref (ad g 363)] mA (rI (fun b m2 => LOut (K + 400) v b m2)) noX := by
  refine (c_X10_undo hG (hw.js hJ (fun h => CV.undo hJ.ci h))).imp (fun r m' hq => ?_) (fun _ _ h => h)
  obtain ⟨b, e, hq, hF⟩ := hq
  have q := hw.fin hJ (fun h => ⟨CV.undo hJ.ci h, hJ.2.1.undo hJ.ci h⟩) ⟨hq.imp id (fun z => ⟨by omega, z.2⟩), hF⟩
  exact ⟨b, e, q.1.mono (by omega), q.2⟩
theorem JA.lw2 {K : Nat} {m : Mem} (h : JA K m) (h1 : m.1 0 3 = 1) : LW m 2 := by
  rcases h.ci.2.2.2 with z | ⟨_, z⟩
  · rw [z] at h1; exact absurd h1 (by decide)
  · exact z
theorem JA.s01 {K : Nat} {m : Mem} (h : JA K m) : m.1 0 3 = 0 ∨ m.1 0 3 = 1 := h.ci.2.2.2.imp id (fun z => z.1)
theorem w_restore {g : xG} (hG : GK g) {K : Nat} {m : Mem} (hJ : JA K m) : CC g yL_restore (.codeWith yL_restore cL_restore 3 (some .int) [(0, 8, 11, 15)]) (3 + 1) 1 6 [.ref (ad g 0), .ref (ad g 373)] m (rI (WU m (restM m) (m.1 0 3 = 1) ((restM m).1 (LA 0) 1))) noX := by
  refine (c_L_restore hG (c_X9_restore hG hJ.ci) (fun E m' h => h.1)).imp (fun r m' hq => ?_) (fun _ _ h => h)
  obtain ⟨v, e, hq⟩ := hq
  refine ⟨v, e, ?_⟩
  rcases hq with ⟨rfl, r0, m1, ⟨hc, rfl, rfl⟩, rfl⟩ | ⟨rfl, _, hn, rfl⟩
  · exact Or.inl ⟨rfl, hJ.s01.resolve_left hc, rfl⟩
  · refine Or.inr ⟨rfl, fun z => ?_, rfl⟩
    rw [hn] at z
    exact absurd z (by decide)
theorem n_restore {g : xG} (hG : GK g) {K : Nat} {m mA : Mem} (hJ : JA K m) {v : Int32} (hw : WU m (restM m) (m.1 0 3 = 1) ((restM m).1 (LA 0) 1) v mA) : CC g yX10_restore (.code yX10_restore cX10_restore 1 (some .int)) 3 0 0 [.ref (ad g 363)] mA (rI (fun b m2 => LOut (K + 400) v b m2)) noX := by
  refine (c_X10_restore hG (hw.js hJ (fun h => CV.rest (hJ.lw2 h)))).imp (fun r m' hq => ?_) (fun _ _ h => h)
  obtain ⟨b, e, hq, hF⟩ := hq
  have q := hw.fin hJ (fun h => ⟨CV.rest (hJ.lw2 h), hJ.2.1.rest hJ.ci h⟩) ⟨hq.imp id (fun z => ⟨fun w => by rw [z.1] at w; exact absurd w (by decide), z.2⟩), hF⟩
  exact ⟨b, e, q.1.mono (by omega), q.2⟩
theorem w_save {g : xG} (hG : GK g) {K : Nat} {m : Mem} (hJ : JA K m) : CC g yX9_save (.code yX9_save cX9_save 1 (some .int)) 3 0 0 [.ref (ad g 0)] m (rI (fun v mA => v = m.1 (LA 0) 1 ∧ mA = saveM m)) noX := by
  refine (c_X9_save hG hJ.ci).imp (fun r m' hq => ?_) (fun _ _ h => h)
  obtain ⟨v, e, hv, hm⟩ := hq
  exact ⟨v, e, hv.trans (congrFun (save_agr hJ.ci 0 (by decide)) 1), hm⟩
theorem n_save {g : xG} (hG : GK g) {K : Nat} {m mA : Mem} (hJ : JA K m) (hw : mA = saveM m) : CC g yX10_save (.code yX10_save cX10_save 1 (some .int)) 2 0 0 [.ref (ad g 363)] mA (rI (fun b m2 => b = m.1 (LA 0) 1 ∧ JA (K + 400) m2)) noX := by
  refine (c_X10_save hG (hJ.1.cv (CV.save hJ.ci) (fun k _ => by rw [hw]))).imp (fun r m' hq => ?_) (fun _ _ h => h)
  obtain ⟨b, e, hv, h15, hJ2, hF⟩ := hq
  exact ⟨b, e, hv, (hJ.mfu (CV.save hJ.ci) (fun k _ => by rw [hw]) (by rw [hw]) hJ2 (hJ.2.1.save hJ.ci) hF).mono (by omega)⟩
/-- the answer that both give, a double -/
def DOut (K : Nat) (k : Int32) (b : UInt64) (m2 : Mem) : Prop := JA K m2 ∧ m2.1 363 15 = k ∧ (k = 0 → dj (m2.1 374 0) (m2.1 374 1) = b)
def WD2 (m : Mem) (c : Prop) (C : Int32 → Prop) (v0 : UInt64) (v : Int32) (mA : Mem) : Prop := (c ∧ v = 0 ∧ mA = dUp m v0) ∨ (C v ∧ mA = m)
theorem WD2.rd {m mA : Mem} {c : Prop} {C : Int32 → Prop} {v0 : UInt64} {v : Int32} (h : WD2 m c C v0 v mA) : RD m mA := by
  rcases h with ⟨_, _, rfl⟩ | ⟨_, rfl⟩
  · exact RD.dout _ _
  · exact RD.refl _
theorem WD2.fin {K : Nat} {m mA m2 : Mem} {c : Prop} {C : Int32 → Prop} {v0 b : UInt64} {v : Int32} (h : WD2 m c C v0 v mA) (hJ : JA K m) (hx : c → ∀ t, ¬ C t) (hf : ∀ t t', C t → C t' → t = t') (hz : ∀ t, C t → ¬ t = 0) (hb : (c ∧ b = v0 ∧ m2 = up mA 363 15 0) ∨ (∃ t, C t ∧ m2 = up mA 363 15 t)) : DOut K v b m2 := by
  have hr := h.rd
  rcases hb with ⟨h1, hb, hm⟩ | ⟨t, h1, hm⟩
  · rcases h with ⟨_, hv, hA⟩ | ⟨hn, _⟩
    · refine ⟨hJ.read (hr.trans (hm ▸ RD.thr _ _)), ?_, fun _ => ?_⟩
      · rw [hm, up_same, hv]
      · rw [hm, up_cell _ _ _ (by decide), hA, dUp_v, hb]
    · exact absurd hn (hx h1 _)
  · rcases h with ⟨hc, _⟩ | ⟨hc, hA⟩
    · exact absurd h1 (hx hc _)
    · refine ⟨hJ.read (hr.trans (hm ▸ RD.thr _ _)), ?_, fun z => absurd z (hz v hc)⟩
      rw [hm, up_same]
      exact hf _ _ h1 hc
theorem w_meanTemperature {g : xG} (hG : GK g) {K : Nat} {m : Mem} (hJ : JA K m) {x : Int32} : CC g yL_meanTemperature (.codeWith yL_meanTemperature cL_meanTemperature 4 (some .int) [(0, 8, 11, 21), (0, 8, 14, 129)]) (3 + 1) 2 12 [.ref (ad g 0), .int x, .ref (ad g 374)] m (rI (WD2 m (inL m x ∧ ¬ nLy m 0 x.toNatClampNeg = 0) (fun t => (¬ inL m x ∧ t = 1) ∨ (inL m x ∧ nLy m 0 x.toNatClampNeg = 0 ∧ t = 2)) (FP.ddiv (FP.i2d (l_sum (m.1 (LK 0 x.toNatClampNeg + 2)) (nLy m 0 x.toNatClampNeg))) (FP.i2d (m.1 (LK 0 x.toNatClampNeg) 3))))) noX := by
  refine (c_L_meanTemperature hG (c_X9_meanTemperature hG hJ.ci (fun h1 h2 => hJ.xl.n64 hJ.lw h1 h2)) (fun E m' h => h.imp (fun q => q.1) (fun q => q.1))).imp (fun r m' hq => ?_) (fun _ _ h => h)
  obtain ⟨v, e, hq⟩ := hq
  refine ⟨v, e, ?_⟩
  rcases hq with ⟨rfl, r0, m1, ⟨hc, rfl, rfl⟩, rfl⟩ | ⟨rfl, hx⟩ | ⟨rfl, hx⟩
  · exact Or.inl ⟨hc, rfl, rfl⟩
  · rcases hx with ⟨_, h, hm⟩ | ⟨z, _⟩
    · exact Or.inr ⟨Or.inl ⟨h, rfl⟩, hm⟩
    · exact absurd z (by decide)
  · rcases hx with ⟨z, _⟩ | ⟨_, h1, hm⟩
    · exact absurd z (by decide)
    · exact Or.inr ⟨Or.inr ⟨h1.1, h1.2, rfl⟩, hm⟩
theorem n_meanTemperature {g : xG} (hG : GK g) {K : Nat} {m mA : Mem} (hJ : JA K m) {x v : Int32} (hw : WD2 m (inL m x ∧ ¬ nLy m 0 x.toNatClampNeg = 0) (fun t => (¬ inL m x ∧ t = 1) ∨ (inL m x ∧ nLy m 0 x.toNatClampNeg = 0 ∧ t = 2)) (FP.ddiv (FP.i2d (l_sum (m.1 (LK 0 x.toNatClampNeg + 2)) (nLy m 0 x.toNatClampNeg))) (FP.i2d (m.1 (LK 0 x.toNatClampNeg) 3))) v mA) : CC g yX10_meanTemperature (.code yX10_meanTemperature cX10_meanTemperature 5 (some .double)) 6 0 0 [.ref (ad g 363), .int x] mA (rD (fun b m2 => DOut (K + 400) v b m2)) noX := by
  refine (c_X10_meanTemperature hG (hJ.rmr hw.rd) hJ.xl).imp (fun r m' hq => ?_) (fun _ _ h => h)
  obtain ⟨b, e, hq⟩ := hq
  refine ⟨b, e, hw.fin (hJ.mono (by omega)) (fun hc t h => ?_) (fun t t' h h' => ?_) (fun t h => ?_) ?_⟩
  · rcases h with ⟨z, _⟩ | ⟨_, z, _⟩
    · exact z hc.1
    · exact hc.2 z
  · rcases h with ⟨z, q⟩ | ⟨z, _, q⟩ <;> rcases h' with ⟨z2, q2⟩ | ⟨z2, _, q2⟩ <;> first | exact q.trans q2.symm | exact absurd z2 z | exact absurd z z2
  · rcases h with ⟨_, z⟩ | ⟨_, _, z⟩ <;> (rw [z]; decide)
  · rcases hq with h | ⟨h1, h2⟩ | ⟨h1, h2, h3⟩
    · exact Or.inl h
    · exact Or.inr ⟨1, Or.inl ⟨h1, rfl⟩, h2⟩
    · exact Or.inr ⟨2, Or.inr ⟨h1, h2, rfl⟩, h3⟩
theorem w_iceShare {g : xG} (hG : GK g) {K : Nat} {m : Mem} (hJ : JA K m) {x : Int32} : CC g yL_iceShare (.codeWith yL_iceShare cL_iceShare 4 (some .int) [(0, 9, 12, 21)]) (5 + 1) 1 6 [.ref (ad g 0), .int x, .ref (ad g 374)] m (rI (WD2 m (inL m x) (fun t => ¬ inL m x ∧ t = 1) (FP.f2d (FP.fdiv (FP.i2f (iceV m 0 x.toNatClampNeg)) (FP.i2f (m.1 (LK 0 x.toNatClampNeg) 4)))))) noX := by
  refine (c_L_iceShare hG (c_X9_iceShare hG hJ.ci (fun h1 => hJ.xl.n32 hJ.lw h1)) (fun E m' h => h.1) (fun r m1 h => ?_)).imp (fun r m' hq => ?_) (fun _ _ h => h)
  · rw [h.2.1]
    exact hJ.xl.nf hJ.lw h.1
  · obtain ⟨v, e, hq⟩ := hq
    refine ⟨v, e, ?_⟩
    rcases hq with ⟨rfl, r0, m1, ⟨hc, rfl, rfl⟩, rfl⟩ | ⟨rfl, _, hn, rfl⟩
    · exact Or.inl ⟨hc, rfl, rfl⟩
    · exact Or.inr ⟨⟨hn, rfl⟩, rfl⟩
theorem n_iceShare {g : xG} (hG : GK g) {K : Nat} {m mA : Mem} (hJ : JA K m) {x v : Int32} (hw : WD2 m (inL m x) (fun t => ¬ inL m x ∧ t = 1) (FP.f2d (FP.fdiv (FP.i2f (iceV m 0 x.toNatClampNeg)) (FP.i2f (m.1 (LK 0 x.toNatClampNeg) 4)))) v mA) : CC g yX10_iceShare (.code yX10_iceShare cX10_iceShare 2 (some .float)) 7 0 0 [.ref (ad g 363), .int x] mA (rF (fun b m2 => DOut (K + 400) v (FP.f2d b) m2 ∧ (v = 0 → vf_n64 (FP.f2d b)))) noX := by
  refine (c_X10_iceShare hG (hJ.rmr hw.rd) hJ.xl).imp (fun r m' hq => ?_) (fun _ _ h => h)
  obtain ⟨b, e, hq⟩ := hq
  refine ⟨b, e, hw.fin (hJ.mono (by omega)) (fun hc t h => h.1 hc) (fun t t' h h' => h.2.trans h'.2.symm) (fun t h => by rw [h.2]; decide) ?_, fun hv => ?_⟩
  · rcases hq with ⟨h1, h2, h3⟩ | ⟨h1, h2⟩
    · exact Or.inl ⟨h1, congrArg FP.f2d h2, h3⟩
    · exact Or.inr ⟨1, ⟨h1, rfl⟩, h2⟩
  · rcases hq with ⟨h1, h2, _⟩ | ⟨h1, _⟩
    · rw [h2]
      exact hJ.xl.nf hJ.lw h1
    · rcases hw with ⟨hc, _⟩ | ⟨hc, _⟩
      · exact absurd hc h1
      · rw [hc.2] at hv
        exact absurd hv (by decide)
