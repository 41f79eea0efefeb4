/-! what holds of the object between the law's calls -/
/-- the line's builder is in form -/
def BW (g : xG) (M : Mem) : Prop := ∃ n, SW g M n
theorem BW.cv {g : xG} {m m' : Mem} (h : BW g m) (h2 : m'.2 = m.2) (h0 : m'.1 360 = m.1 360) (h1 : m'.1 361 = m.1 361) : BW g m' := by
  obtain ⟨n, a, b, c, d, e, f⟩ := h
  refine ⟨n, by rw [h0]; exact a, by rw [h2]; exact b, by rw [h2]; exact c, by rw [h2]; exact d, fun j hj => ?_, by rw [h2]; exact f⟩
  rw [h2] at hj
  rw [h1]
  exact e j hj
def IV (g : xG) (K : Nat) (M : Mem) : Prop := CI M ∧ XL M 0 ∧ XC K M 0 ∧ PI K M 0 ∧ BW g M ∧ WQ M 0
theorem IV.ci {g : xG} {K : Nat} {M : Mem} (h : IV g K M) : CI M := h.1
theorem IV.lw {g : xG} {K : Nat} {M : Mem} (h : IV g K M) : LW M 0 := h.1.1
theorem IV.xl {g : xG} {K : Nat} {M : Mem} (h : IV g K M) : XL M 0 := h.2.1
theorem IV.xc {g : xG} {K : Nat} {M : Mem} (h : IV g K M) : XC K M 0 := h.2.2.1
theorem IV.pi {g : xG} {K : Nat} {M : Mem} (h : IV g K M) : PI K M 0 := h.2.2.2.1
theorem IV.bw {g : xG} {K : Nat} {M : Mem} (h : IV g K M) : BW g M := h.2.2.2.2.1
theorem IV.wq {g : xG} {K : Nat} {M : Mem} (h : IV g K M) : WQ M 0 := h.2.2.2.2.2
theorem IV.mono {g : xG} {K K' : Nat} {M : Mem} (h : IV g K M) (hK : K ≤ K') : IV g K' M := ⟨h.1, h.2.1, h.xc.mono hK, h.pi.mono hK, h.bw, h.wq⟩
/-- another memory whose present landscape, history, snapshot and builder are the same -/
theorem IV.same {g : xG} {K : Nat} {M M' : Mem} (h : IV g K M) (h2 : M'.2 = M.2) (hk : ∀ k, (k < 31 ∨ 61 ≤ k) → k ≠ 362 → M'.1 k = M.1 k) : IV g K M' := by
  have ha : Agr M M' 0 := fun o ho => hk _ (Or.inl (by rw [LA_0]; omega)) (by rw [LA_0]; omega)
  have hs : Sm M M' 0 0 := ha.sm h.lw.nl5
  exact ⟨h.1.keep (hs.lw h.lw) (fun k a => hk k (by omega) (by omega)), h.xl.sm h.lw hs, h.xc.sm hs, h.pi.sm h.lw hs, h.bw.cv h2 (hk _ (by omega) (by decide)) (hk _ (by omega) (by decide)), h.wq.sm h.lw hs⟩
theorem IV.of_rem {g : xG} {K K' : Nat} {M M2 : Mem} (h : IV g K M) (h2 : M2.2 = (rem M).2) (hk : ∀ k, (k = 0 ∨ 61 ≤ k) → M2.1 k = (rem M).1 k) (hL : LW M2 0) (hX : XL M2 0) (hC : XC K' M2 0) (hP : PI K' M2 0) (hW : WQ M2 0) : IV g K' M2 := by
  have hv := CV.rem h.ci
  refine ⟨(rem_CI h.ci).keep hL (fun k a => hk k (by omega)), hX, hC, hP, h.bw.cv (h2.trans (two_rem M)) ?_ ?_, hW⟩
  · rw [hk _ (by omega)]; exact hv.2.1 _ (by omega) (by decide)
  · rw [hk _ (by omega)]; exact hv.2.1 _ (by omega) (by decide)
section IVC
variable {g : xG} {K : Nat} {M : Mem}
theorem IV.remS (h : IV g K M) : Agr M (rem M) 0 ∧ LW (rem M) 0 ∧ XL (rem M) 0 ∧ XC K (rem M) 0 ∧ PI K (rem M) 0 ∧ WQ (rem M) 0 := by
  have ha : Agr M (rem M) 0 := rem_agr h.lw (by omega)
  have hs := ha.sm h.lw.nl5
  exact ⟨ha, hs.lw h.lw, h.xl.sm h.lw hs, h.xc.sm hs, h.pi.sm h.lw hs, h.wq.sm h.lw hs⟩
theorem IV.place (h : IV g K M) {x : Int32} (hf : placeF M 0 x = 45) : IV g K (placeM 0 x (rem M)) := by
  obtain ⟨ha, hL, hX, hC, hP, hW⟩ := h.remS
  have hq := placeF_ok h.lw hf
  have hn := ha.nl
  have hla : LA 0 = 1 := rfl
  have hlk : LK 0 (nLk (rem M) 0) = LA 0 + 10 + 4 * nLk (rem M) 0 := rfl
  have h5 : nLk (rem M) 0 < 5 := by rw [hn]; exact hq.1
  exact h.of_rem rfl (fun k hk => placeM_cell (by omega) (by omega)) (place_LW hL h5).1 (hX.place hL h5 ⟨Int32.not_lt.mp (fun z => hq.2 (Or.inl z)), Int32.not_lt.mp (fun z => hq.2 (Or.inr z))⟩) (hC.place h5) (hP.place h5) (hW.cells (fun o _ _ => placeM_cell (by omega) (by omega)))
theorem IV.grow (h : IV g K M) {x t te : Int32} (hf : growF M 0 x t te = 45) : IV g K (growM 0 x.toNatClampNeg t te (rem M)) := by
  obtain ⟨ha, hL, hX, hC, hP, hW⟩ := h.remS
  have hla : LA 0 = 1 := rfl
  have hq := growF_ok hL (x := x) (t := t) (te := te) (by rw [ha.fGrow h.lw.nl5]; exact hf)
  obtain ⟨j, hxe, hj, hjc⟩ := idx_j hq.1 (by have := hL.nl5; omega)
  rw [hjc] at hq ⊢
  have h5 := hL.nl5
  have hlk : LK 0 j = LA 0 + 10 + 4 * j := rfl
  obtain ⟨-, q2, q3, q4⟩ := hq
  exact h.of_rem rfl (fun k hk => growM_cell (by omega) (by omega)) (grow_LW hL hj q3).1 (hX.grow hL hj q3 ⟨Int32.not_lt.mp (fun z => q2 (Or.inl z)), Int32.not_lt.mp (fun z => q2 (Or.inr (Or.inl z)))⟩ ⟨Int32.not_lt.mp (fun z => q2 (Or.inr (Or.inr (Or.inl z)))), Int32.not_lt.mp (fun z => q2 (Or.inr (Or.inr (Or.inr z))))⟩ (Int32.not_lt.mp q4)) (hC.grow h5) (hP.grow hL hj q3) (hW.cells (fun o _ _ => growM_cell (by omega) (by omega)))
theorem IV.air (h : IV g K M) {x : Int32} (hf : airF x = 45) : IV g K (up (rem M) (LA 0) 2 x) := by
  obtain ⟨ha, hL, hX, hC, hP, hW⟩ := h.remS
  have hla : LA 0 = 1 := rfl
  have hq : ¬ (x < -40 ∨ 20 < x) := fun z => by unfold airF at hf; rw [if_pos z] at hf; exact absurd hf (by decide)
  have hc : ∀ o, 0 < o → (up (rem M) (LA 0) 2 x).1 (LA 0 + o) = (rem M).1 (LA 0 + o) := fun o _ => up_cell _ _ _ (by omega)
  have h1 : (up (rem M) (LA 0) 2 x).1 (LA 0) 1 = (rem M).1 (LA 0) 1 := up_slot _ _ _ (by decide)
  have hL2 : LW (up (rem M) (LA 0) 2 x) 0 := (LW.mk' (n := nLk (rem M) 0) (by rw [h1]; exact hL.nl) hL.nl5 (fun j hj => ⟨nLy (rem M) 0 j, by rw [LKo0, hc _ (by omega), ← LKo0]; exact (hL.ln hj).1, (hL.ln hj).2⟩) ⟨nWn (rem M) 0, by rw [hc 2 (by omega)]; exact hL.wr.1, hL.wr.2⟩ ⟨wOf (rem M) 0, cOf (rem M) 0, by rw [hc 5 (by omega)]; exact hL.pr.1, hL.pr.2.1, by rw [hc 5 (by omega)]; exact hL.pr.2.2.1, hL.pr.2.2.2⟩ (fun y hy => by rw [hc 6 (by omega)]; exact hL.kf y hy)).1
  exact h.of_rem rfl (fun k hk => up_cell _ _ _ (by omega)) hL2 (hX.air hL.nl5 ⟨Int32.not_lt.mp (fun z => hq (Or.inl z)), Int32.not_lt.mp (fun z => hq (Or.inr z))⟩) (hC.air hL.nl5) (hP.air hL.nl5) (hW.cells (fun o _ _ => up_cell _ _ _ (by omega)))
theorem IV.hours (h : IV g K M) (q : Nat) : IV g (K + 8 * q) (hoursM 0 (rem M) q) := by
  obtain ⟨ha, hL, hX, hC, hP, hW⟩ := h.remS
  have hla : LA 0 = 1 := rfl
  exact h.of_rem (two_hours 0 _ _) (fun k hk => hoursM_cell hL (by omega) _) (hours_LW hL q).1 (hX.hours hL q) (hC.hours hL q) ((hP.hours hX.1 hL q).mono (by omega)) (hW.cells (fun o a b => hours_win q o a b))
theorem IV.win (h : IV g K M) {x z : Int32} (hf : winF M 0 x z = 45) : IV g K (insM 0 (nWn (rem M) 0) x z (rem M)) := by
  obtain ⟨ha, hL, hX, hC, hP, hW⟩ := h.remS
  have hla : LA 0 = 1 := rfl
  have hq := winF_ok2 hL (x := x) (z := z) (by rw [ha.fWin]; exact hf)
  exact h.of_rem rfl (fun k hk => insM_cell (by omega)) (ins_LW hL hq.2.1).1 (hX.ins hL rfl hq.2.1 hq.1 hq.2.2) (hC.ins hL.nl5) (hP.ins hL.nl5) (hW.ins hX rfl hq.2.1 hq.1 hq.2.2)
theorem IV.shut (h : IV g K M) {x : Int32} (hf : openF M 0 x = 45) : IV g K (rmM 0 (nWn (rem M) 0) x.toNatClampNeg (rem M)) := by
  obtain ⟨ha, hL, hX, hC, hP, hW⟩ := h.remS
  have hla : LA 0 = 1 := rfl
  have hq := openF_ok hf
  rw [← ha.nw] at hq
  obtain ⟨j, hxe, hj, hjc⟩ := idx_j hq (by have := hL.wr.2; omega)
  rw [hjc]
  exact h.of_rem rfl (fun k hk => rmM_cell (by omega)) (rm_LW hL hL.wr.2).1 (hX.rm hL rfl hj) (hC.rm hL.nl5) (hP.rm hL.nl5) (hW.rm rfl hL.wr.2 hj)
theorem IV.ring (h : IV g K M) {x y : Int32} (hf : ringF M 0 x y = 45) : IV g K (ringM 0 x.toNatClampNeg y.toNatClampNeg (rem M)) := by
  obtain ⟨ha, hL, hX, hC, hP, hW⟩ := h.remS
  have hla : LA 0 = 1 := rfl
  obtain ⟨⟨q1, q2⟩, q3⟩ := ringF_ok (m := rem M) (i := 0) (x := x) (y := y) (by rw [ha.fRing h.lw.nl5]; exact hf)
  obtain ⟨j, -, hj, hjc⟩ := idx_j q1 (by have := hL.nl5; omega)
  rw [hjc] at q2 q3 ⊢
  obtain ⟨b, -, hb, hbc⟩ := idx_j q2 (by have := (hL.ln hj).2; omega)
  rw [hbc] at q3 ⊢
  exact h.of_rem (two_ring 0 _ _ _) (fun k hk => show (ringM 0 j b (rem M)).1 k = _ from recM_cell (by omega)) (ring_LW hL).1 (hX.ring hL hj hb) (hC.ring hL) (hP.ring hX hL hj hb q3) (hW.cells (fun o _ _ => show (ringM 0 j b (rem M)).1 (LA 0 + o) = _ from recM_cell (by omega)))
end IVC
