/-! each call of both: changes, questions, plain reads -/
theorem XC.rem {K : Nat} {m : Mem} (hI : CI m) (h : XC K m 0) : XC K (rem m) 0 := h.sm ((rem_agr hI.1 (by omega)).sm hI.1.nl5)
def CHG (K : Nat) (m M2 : Mem) : Prop := CV m M2 ∧ XI (K + 400) M2
theorem CHG.mk' {K : Nat} {m M2 : Mem} (hI : CI m) (hX : XI K m) (h2 : M2.2 = (rem m).2) (hc : ∀ k, (k = 0 ∨ 61 ≤ k) → M2.1 k = (rem m).1 k) (hXC : XC (K + 400) M2 0) : CHG K m M2 :=
  ⟨(CV.rem hI).trans (CV.mk' h2 (fun k hk => hc k (by omega))), hX.ok hI hXC (by omega) (fun k hk => hc k (by omega))⟩
theorem chg_place {K : Nat} {m : Mem} {x : Int32} (hI : CI m) (hX : XI K m) (hf : placeF m 0 x = 45) : CHG K m (placeM 0 x (rem m)) := by
  have ha : Agr m (rem m) 0 := rem_agr hI.1 (by omega)
  have h := (placeF_ok hI.1 hf).1
  have hn := ha.nl
  have hla : LA 0 = 1 := rfl
  have hlk : LK 0 (nLk (rem m) 0) = LA 0 + 10 + 4 * nLk (rem m) 0 := rfl
  exact CHG.mk' hI hX rfl (fun k hk => placeM_cell (by omega) (by omega)) (((XC.rem hI hX.1).place (by omega)).mono (by omega))
theorem chg_grow {K : Nat} {m : Mem} {x t te : Int32} (hI : CI m) (hX : XI K m) (hf : growF m 0 x t te = 45) : CHG K m (growM 0 x.toNatClampNeg t te (rem m)) := by
  have ha : Agr m (rem m) 0 := rem_agr hI.1 (by omega)
  have h0L := (rem_LW hI.1).1
  have hla : LA 0 = 1 := rfl
  have h := growF_ok h0L (x := x) (t := t) (te := te) (by rw [ha.fGrow hI.1.nl5]; exact hf)
  obtain ⟨j, hxe, hj, hjc⟩ := idx_j h.1 (by have := h0L.nl5; omega)
  rw [hjc]
  have h5 := h0L.nl5
  have hlk : LK 0 j = LA 0 + 10 + 4 * j := rfl
  exact CHG.mk' hI hX rfl (fun k hk => growM_cell (by omega) (by omega)) (((XC.rem hI hX.1).grow h5).mono (by omega))
theorem chg_air {K : Nat} {m : Mem} {x : Int32} (hI : CI m) (hX : XI K m) (_ : airF x = 45) : CHG K m (up (rem m) (LA 0) 2 x) := by
  have h0L := (rem_LW hI.1).1
  have hla : LA 0 = 1 := rfl
  exact CHG.mk' hI hX rfl (fun k hk => up_cell _ _ _ (by omega)) (((XC.rem hI hX.1).air h0L.nl5).mono (by omega))
theorem chg_pass {K : Nat} {m : Mem} {x : Int32} (hI : CI m) (hX : XI K m) (hf : passF x = 45) : CHG K m (hoursM 0 (rem m) x.toNatClampNeg) := by
  have h0L := (rem_LW hI.1).1
  have hla : LA 0 = 1 := rfl
  have h48 := (passF_ok hf).2.1
  exact CHG.mk' hI hX (two_hours 0 _ _) (fun k hk => hoursM_cell h0L (by omega) _) (((XC.rem hI hX.1).hours h0L _).mono (by omega))
theorem chg_win {K : Nat} {m : Mem} {x z : Int32} (hI : CI m) (hX : XI K m) (_ : winF m 0 x z = 45) : CHG K m (insM 0 (nWn (rem m) 0) x z (rem m)) := by
  have h0L := (rem_LW hI.1).1
  have hla : LA 0 = 1 := rfl
  exact CHG.mk' hI hX rfl (fun k hk => insM_cell (by omega)) (((XC.rem hI hX.1).ins h0L.nl5).mono (by omega))
theorem chg_shut {K : Nat} {m : Mem} {x : Int32} (hI : CI m) (hX : XI K m) (_ : openF m 0 x = 45) : CHG K m (rmM 0 (nWn (rem m) 0) x.toNatClampNeg (rem m)) := by
  have h0L := (rem_LW hI.1).1
  have hla : LA 0 = 1 := rfl
  exact CHG.mk' hI hX rfl (fun k hk => rmM_cell (by omega)) (((XC.rem hI hX.1).rm h0L.nl5).mono (by omega))
theorem two_ring (i j y : Nat) (m : Mem) : (ringM i j y m).2 = m.2 := rfl
theorem chg_ring {K : Nat} {m : Mem} {x y : Int32} (hI : CI m) (hX : XI K m) (_ : ringF m 0 x y = 45) : CHG K m (ringM 0 x.toNatClampNeg y.toNatClampNeg (rem m)) := by
  have h0L := (rem_LW hI.1).1
  have hla : LA 0 = 1 := rfl
  exact CHG.mk' hI hX (two_ring 0 _ _ _) (fun k hk => show (ringM 0 x.toNatClampNeg y.toNatClampNeg (rem m)).1 k = _ from recM_cell (by omega)) (((XC.rem hI hX.1).ring h0L).mono (by omega))

theorem w_addLake {g : xG} (hG : GK g) {K : Nat} {m : Mem} (hJ : JA K m) {x : Int32} : CC g yL_addLake (.codeWith yL_addLake cL_addLake 4 (some .int) [(0, 9, 12, 13), (0, 9, 15, 15)]) (4 + 1) 1 6 [.ref (ad g 0), .int x, .ref (ad g 373)] m (rI (WC m (placeM 0 x (rem m)) (placeF m 0 x) (nI (nLk (rem m) 0)) cAdd)) noX := by
  refine (c_L_addLake hG (c_X9_addLake hG hJ.ci) (fun E m' h => ?_)).imp (fun r m' hq => ?_) (fun _ _ h => h)
  · rcases faultE_inv h.1 with ⟨e, rfl⟩ | ⟨e, rfl⟩ | ⟨e, rfl⟩ | ⟨e, rfl⟩
    · rcases placeF_cs m 0 x with q | q | q <;> (rw [q] at e; exact absurd e (by decide))
    · exact Or.inl (rfl)
    · exact Or.inr (rfl)
    · rcases placeF_cs m 0 x with q | q | q <;> (rw [q] at e; exact absurd e (by decide))
  · obtain ⟨v, e, hq⟩ := hq
    refine ⟨v, e, ?_⟩
    rcases hq with ⟨rfl, r0, m1, ⟨hf, rfl, rfl⟩, rfl⟩ | ⟨rfl, hx, rfl⟩ | ⟨rfl, hx, rfl⟩
    · exact Or.inl ⟨rfl, hf, rfl⟩
    · exact Or.inr ⟨Or.inl (⟨fault_IA hx, rfl⟩), rfl⟩
    · exact Or.inr ⟨Or.inr (⟨fault_IS hx, rfl⟩), rfl⟩
theorem n_addLake {g : xG} (hG : GK g) {K : Nat} {m mA : Mem} (hJ : JA K m) {x : Int32} {v : Int32} (hw : WC m (placeM 0 x (rem m)) (placeF m 0 x) (nI (nLk (rem m) 0)) cAdd v mA) : CC g yX10_addLake (.code yX10_addLake cX10_addLake 2 (some .int)) 5 0 0 [.ref (ad g 363), .int x] mA (rI (fun b m2 => LOut (K + 400) v b m2)) noX := by
  have hV : placeF m 0 x = 45 → CV m (placeM 0 x (rem m)) := fun hf => (chg_place hJ.ci hJ.2.1 hf).1
  refine (c_X10_addLake hG (m := mA) (M := m) (hw.js hJ hV)).imp (fun r m' hq => ?_) (fun _ _ h => h)
  obtain ⟨b, e, hq⟩ := hq
  refine ⟨b, e, hw.fin hJ hV (fun hf => (chg_place hJ.ci hJ.2.1 hf).2) (by omega) (fun t h => ?_) (fun t t' h h' => ?_) (fun t h => ?_) hq⟩
  · rcases h with ⟨z, _⟩ | ⟨z, _⟩ <;> exact absurd z (by decide)
  · rcases h with ⟨z, q⟩ | ⟨z, q⟩ <;> rcases h' with ⟨z2, q2⟩ | ⟨z2, q2⟩ <;> first | exact q.trans q2.symm | exact absurd (z.symm.trans z2) (by decide)
  · rcases h with ⟨_, z⟩ | ⟨_, z⟩ <;> (rw [z]; decide)
theorem w_freeze {g : xG} (hG : GK g) {K : Nat} {m : Mem} (hJ : JA K m) {x t te : Int32} : CC g yL_freeze (.codeWith yL_freeze cL_freeze 6 (some .int) [(0, 12, 15, 21), (0, 12, 19, 13), (0, 12, 23, 15), (0, 12, 27, 23)]) (4 + 1) 1 6 [.ref (ad g 0), .int x, .int t, .int te, .ref (ad g 373)] m (rI (WC m (growM 0 x.toNatClampNeg t te (rem m)) (growF m 0 x t te) (nI (nLy (rem m) 0 x.toNatClampNeg + 1)) cGro)) noX := by
  refine (c_L_freeze hG (c_X9_freeze hG hJ.ci) (fun E m' h => ?_)).imp (fun r m' hq => ?_) (fun _ _ h => h)
  · rcases faultE_inv h.1 with ⟨e, rfl⟩ | ⟨e, rfl⟩ | ⟨e, rfl⟩ | ⟨e, rfl⟩
    · exact Or.inl (rfl)
    · exact Or.inr (Or.inl (rfl))
    · exact Or.inr (Or.inr (Or.inl (rfl)))
    · exact Or.inr (Or.inr (Or.inr (rfl)))
  · obtain ⟨v, e, hq⟩ := hq
    refine ⟨v, e, ?_⟩
    rcases hq with ⟨rfl, r0, m1, ⟨hf, rfl, rfl⟩, rfl⟩ | ⟨rfl, hx, rfl⟩ | ⟨rfl, hx, rfl⟩ | ⟨rfl, hx, rfl⟩ | ⟨rfl, hx, rfl⟩
    · exact Or.inl ⟨rfl, hf, rfl⟩
    · exact Or.inr ⟨Or.inl (⟨fault_IO hx, rfl⟩), rfl⟩
    · exact Or.inr ⟨Or.inr (Or.inl (⟨fault_IA hx, rfl⟩)), rfl⟩
    · exact Or.inr ⟨Or.inr (Or.inr (Or.inl (⟨fault_IS hx, rfl⟩))), rfl⟩
    · exact Or.inr ⟨Or.inr (Or.inr (Or.inr (⟨fault_UO hx, rfl⟩))), rfl⟩
theorem n_freeze {g : xG} (hG : GK g) {K : Nat} {m mA : Mem} (hJ : JA K m) {x t te : Int32} {v : Int32} (hw : WC m (growM 0 x.toNatClampNeg t te (rem m)) (growF m 0 x t te) (nI (nLy (rem m) 0 x.toNatClampNeg + 1)) cGro v mA) : CC g yX10_freeze (.code yX10_freeze cX10_freeze 4 (some .int)) 10 0 0 [.ref (ad g 363), .int x, .int t, .int te] mA (rI (fun b m2 => LOut (K + 400) v b m2)) noX := by
  have hV : growF m 0 x t te = 45 → CV m (growM 0 x.toNatClampNeg t te (rem m)) := fun hf => (chg_grow hJ.ci hJ.2.1 hf).1
  refine (c_X10_freeze hG (m := mA) (M := m) (hw.js hJ hV)).imp (fun r m' hq => ?_) (fun _ _ h => h)
  obtain ⟨b, e, hq⟩ := hq
  refine ⟨b, e, hw.fin hJ hV (fun hf => (chg_grow hJ.ci hJ.2.1 hf).2) (by omega) (fun t h => ?_) (fun t t' h h' => ?_) (fun t h => ?_) hq⟩
  · rcases h with ⟨z, _⟩ | ⟨z, _⟩ | ⟨z, _⟩ | ⟨z, _⟩ <;> exact absurd z (by decide)
  · rcases h with ⟨z, q⟩ | ⟨z, q⟩ | ⟨z, q⟩ | ⟨z, q⟩ <;> rcases h' with ⟨z2, q2⟩ | ⟨z2, q2⟩ | ⟨z2, q2⟩ | ⟨z2, q2⟩ <;> first | exact q.trans q2.symm | exact absurd (z.symm.trans z2) (by decide)
  · rcases h with ⟨_, z⟩ | ⟨_, z⟩ | ⟨_, z⟩ | ⟨_, z⟩ <;> (rw [z]; decide)
theorem w_setAir {g : xG} (hG : GK g) {K : Nat} {m : Mem} (hJ : JA K m) {x : Int32} : CC g yL_setAir (.codeWith yL_setAir cL_setAir 4 (some .int) [(0, 9, 12, 13)]) (4 + 1) 1 6 [.ref (ad g 0), .int x, .ref (ad g 373)] m (rI (WC m (up (rem m) (LA 0) 2 x) (airF x) ((rem m).1 (LA 0) 2) c97)) noX := by
  refine (c_L_setAir hG (c_X9_setAir hG hJ.ci) (fun E m' h => ?_)).imp (fun r m' hq => ?_) (fun _ _ h => h)
  · rcases faultE_inv h.1 with ⟨e, rfl⟩ | ⟨e, rfl⟩ | ⟨e, rfl⟩ | ⟨e, rfl⟩
    · rcases airF_cs x with q | q <;> (rw [q] at e; exact absurd e (by decide))
    · exact rfl
    · rcases airF_cs x with q | q <;> (rw [q] at e; exact absurd e (by decide))
    · rcases airF_cs x with q | q <;> (rw [q] at e; exact absurd e (by decide))
  · obtain ⟨v, e, hq⟩ := hq
    refine ⟨v, e, ?_⟩
    rcases hq with ⟨rfl, r0, m1, ⟨hf, rfl, rfl⟩, rfl⟩ | ⟨rfl, hx, rfl⟩
    · exact Or.inl ⟨rfl, hf, rfl⟩
    · exact Or.inr ⟨⟨fault_IA hx, rfl⟩, rfl⟩
theorem n_setAir {g : xG} (hG : GK g) {K : Nat} {m mA : Mem} (hJ : JA K m) {x : Int32} {v : Int32} (hw : WC m (up (rem m) (LA 0) 2 x) (airF x) ((rem m).1 (LA 0) 2) c97 v mA) : CC g yX10_setAir (.code yX10_setAir cX10_setAir 2 (some .int)) 5 0 0 [.ref (ad g 363), .int x] mA (rI (fun b m2 => LOut (K + 400) v b m2)) noX := by
  have hV : airF x = 45 → CV m (up (rem m) (LA 0) 2 x) := fun hf => (chg_air hJ.ci hJ.2.1 hf).1
  refine (c_X10_setAir hG (m := mA) (M := m) (hw.js hJ hV)).imp (fun r m' hq => ?_) (fun _ _ h => h)
  obtain ⟨b, e, hq⟩ := hq
  refine ⟨b, e, hw.fin hJ hV (fun hf => (chg_air hJ.ci hJ.2.1 hf).2) (by omega) (fun t h => ?_) (fun t t' h h' => ?_) (fun t h => ?_) hq⟩
  · obtain ⟨z, _⟩ := h
    exact absurd z (by decide)
  · obtain ⟨_, q⟩ := h
    obtain ⟨_, q2⟩ := h'
    exact q.trans q2.symm
  · obtain ⟨_, z⟩ := h
    rw [z]; decide
theorem w_pass {g : xG} (hG : GK g) {K : Nat} {m : Mem} (hJ : JA K m) {x : Int32} : CC g yL_pass (.codeWith yL_pass cL_pass 4 (some .int) [(0, 9, 12, 13)]) (7 + 1) 1 6 [.ref (ad g 0), .int x, .ref (ad g 373)] m (rI (WC m (hoursM 0 (rem m) x.toNatClampNeg) (passF x) (nI (hoursN 0 (rem m) x.toNatClampNeg)) c97)) noX := by
  refine (c_L_pass hG (c_X9_pass hG hJ.ci) (fun E m' h => ?_)).imp (fun r m' hq => ?_) (fun _ _ h => h)
  · rcases faultE_inv h.1 with ⟨e, rfl⟩ | ⟨e, rfl⟩ | ⟨e, rfl⟩ | ⟨e, rfl⟩
    · rcases passF_cs x with q | q <;> (rw [q] at e; exact absurd e (by decide))
    · exact rfl
    · rcases passF_cs x with q | q <;> (rw [q] at e; exact absurd e (by decide))
    · rcases passF_cs x with q | q <;> (rw [q] at e; exact absurd e (by decide))
  · obtain ⟨v, e, hq⟩ := hq
    refine ⟨v, e, ?_⟩
    rcases hq with ⟨rfl, r0, m1, ⟨hf, rfl, rfl⟩, rfl⟩ | ⟨rfl, hx, rfl⟩
    · exact Or.inl ⟨rfl, hf, rfl⟩
    · exact Or.inr ⟨⟨fault_IA hx, rfl⟩, rfl⟩
theorem n_pass {g : xG} (hG : GK g) {K : Nat} {m mA : Mem} (hJ : JA K m) {x : Int32} {v : Int32} (hw : WC m (hoursM 0 (rem m) x.toNatClampNeg) (passF x) (nI (hoursN 0 (rem m) x.toNatClampNeg)) c97 v mA) : CC g yX10_pass (.code yX10_pass cX10_pass 2 (some .int)) 11 0 0 [.ref (ad g 363), .int x] mA (rI (fun b m2 => LOut (K + 400) v b m2)) noX := by
  have hV : passF x = 45 → CV m (hoursM 0 (rem m) x.toNatClampNeg) := fun hf => (chg_pass hJ.ci hJ.2.1 hf).1
  refine (c_X10_pass hG (m := mA) (M := m) (hw.js hJ hV)).imp (fun r m' hq => ?_) (fun _ _ h => h)
  obtain ⟨b, e, hq⟩ := hq
  refine ⟨b, e, hw.fin hJ hV (fun hf => (chg_pass hJ.ci hJ.2.1 hf).2) (by omega) (fun t h => ?_) (fun t t' h h' => ?_) (fun t h => ?_) hq⟩
  · obtain ⟨z, _⟩ := h
    exact absurd z (by decide)
  · obtain ⟨_, q⟩ := h
    obtain ⟨_, q2⟩ := h'
    exact q.trans q2.symm
  · obtain ⟨_, z⟩ := h
    rw [z]; decide
theorem w_addWindow {g : xG} (hG : GK g) {K : Nat} {m : Mem} (hJ : JA K m) {x z : Int32} : CC g yL_addWindow (.codeWith yL_addWindow cL_addWindow 5 (some .int) [(0, 10, 13, 13), (0, 10, 17, 15), (0, 10, 21, 23)]) (4 + 1) 1 6 [.ref (ad g 0), .int x, .int z, .ref (ad g 373)] m (rI (WC m (insM 0 (nWn (rem m) 0) x z (rem m)) (winF m 0 x z) (nI (nWn (rem m) 0 + 1)) cWin)) noX := by
  refine (c_L_addWindow hG (c_X9_addWindow hG hJ.ci) (fun E m' h => ?_)).imp (fun r m' hq => ?_) (fun _ _ h => h)
  · rcases faultE_inv h.1 with ⟨e, rfl⟩ | ⟨e, rfl⟩ | ⟨e, rfl⟩ | ⟨e, rfl⟩
    · rcases winF_cs m 0 x z with q | q | q | q <;> (rw [q] at e; exact absurd e (by decide))
    · exact Or.inl (rfl)
    · exact Or.inr (Or.inl (rfl))
    · exact Or.inr (Or.inr (rfl))
  · obtain ⟨v, e, hq⟩ := hq
    refine ⟨v, e, ?_⟩
    rcases hq with ⟨rfl, r0, m1, ⟨hf, rfl, rfl⟩, rfl⟩ | ⟨rfl, hx, rfl⟩ | ⟨rfl, hx, rfl⟩ | ⟨rfl, hx, rfl⟩
    · exact Or.inl ⟨rfl, hf, rfl⟩
    · exact Or.inr ⟨Or.inl (⟨fault_IA hx, rfl⟩), rfl⟩
    · exact Or.inr ⟨Or.inr (Or.inl (⟨fault_IS hx, rfl⟩)), rfl⟩
    · exact Or.inr ⟨Or.inr (Or.inr (⟨fault_UO hx, rfl⟩)), rfl⟩
theorem n_addWindow {g : xG} (hG : GK g) {K : Nat} {m mA : Mem} (hJ : JA K m) {x z : Int32} {v : Int32} (hw : WC m (insM 0 (nWn (rem m) 0) x z (rem m)) (winF m 0 x z) (nI (nWn (rem m) 0 + 1)) cWin v mA) : CC g yX10_addWindow (.code yX10_addWindow cX10_addWindow 3 (some .int)) 5 0 0 [.ref (ad g 363), .int x, .int z] mA (rI (fun b m2 => LOut (K + 400) v b m2)) noX := by
  have hV : winF m 0 x z = 45 → CV m (insM 0 (nWn (rem m) 0) x z (rem m)) := fun hf => (chg_win hJ.ci hJ.2.1 hf).1
  refine (c_X10_addWindow hG (m := mA) (M := m) (hw.js hJ hV)).imp (fun r m' hq => ?_) (fun _ _ h => h)
  obtain ⟨b, e, hq⟩ := hq
  refine ⟨b, e, hw.fin hJ hV (fun hf => (chg_win hJ.ci hJ.2.1 hf).2) (by omega) (fun t h => ?_) (fun t t' h h' => ?_) (fun t h => ?_) hq⟩
  · rcases h with ⟨z, _⟩ | ⟨z, _⟩ | ⟨z, _⟩ <;> exact absurd z (by decide)
  · rcases h with ⟨z, q⟩ | ⟨z, q⟩ | ⟨z, q⟩ <;> rcases h' with ⟨z2, q2⟩ | ⟨z2, q2⟩ | ⟨z2, q2⟩ <;> first | exact q.trans q2.symm | exact absurd (z.symm.trans z2) (by decide)
  · rcases h with ⟨_, z⟩ | ⟨_, z⟩ | ⟨_, z⟩ <;> (rw [z]; decide)
theorem w_removeWindow {g : xG} (hG : GK g) {K : Nat} {m : Mem} (hJ : JA K m) {x : Int32} : CC g yL_removeWindow (.codeWith yL_removeWindow cL_removeWindow 4 (some .int) [(0, 9, 12, 21)]) (4 + 1) 1 6 [.ref (ad g 0), .int x, .ref (ad g 373)] m (rI (WC m (rmM 0 (nWn (rem m) 0) x.toNatClampNeg (rem m)) (openF m 0 x) (nI (nWn (rem m) 0 - 1)) c98)) noX := by
  refine (c_L_removeWindow hG (c_X9_removeWindow hG hJ.ci) (fun E m' h => ?_)).imp (fun r m' hq => ?_) (fun _ _ h => h)
  · rcases faultE_inv h.1 with ⟨e, rfl⟩ | ⟨e, rfl⟩ | ⟨e, rfl⟩ | ⟨e, rfl⟩
    · exact rfl
    · rcases openF_cs m 0 x with q | q <;> (rw [q] at e; exact absurd e (by decide))
    · rcases openF_cs m 0 x with q | q <;> (rw [q] at e; exact absurd e (by decide))
    · rcases openF_cs m 0 x with q | q <;> (rw [q] at e; exact absurd e (by decide))
  · obtain ⟨v, e, hq⟩ := hq
    refine ⟨v, e, ?_⟩
    rcases hq with ⟨rfl, r0, m1, ⟨hf, rfl, rfl⟩, rfl⟩ | ⟨rfl, hx, rfl⟩
    · exact Or.inl ⟨rfl, hf, rfl⟩
    · exact Or.inr ⟨⟨fault_IO hx, rfl⟩, rfl⟩
theorem n_removeWindow {g : xG} (hG : GK g) {K : Nat} {m mA : Mem} (hJ : JA K m) {x : Int32} {v : Int32} (hw : WC m (rmM 0 (nWn (rem m) 0) x.toNatClampNeg (rem m)) (openF m 0 x) (nI (nWn (rem m) 0 - 1)) c98 v mA) : CC g yX10_removeWindow (.code yX10_removeWindow cX10_removeWindow 2 (some .int)) 5 0 0 [.ref (ad g 363), .int x] mA (rI (fun b m2 => LOut (K + 400) v b m2)) noX := by
  have hV : openF m 0 x = 45 → CV m (rmM 0 (nWn (rem m) 0) x.toNatClampNeg (rem m)) := fun hf => (chg_shut hJ.ci hJ.2.1 hf).1
  refine (c_X10_removeWindow hG (m := mA) (M := m) (hw.js hJ hV)).imp (fun r m' hq => ?_) (fun _ _ h => h)
  obtain ⟨b, e, hq⟩ := hq
  refine ⟨b, e, hw.fin hJ hV (fun hf => (chg_shut hJ.ci hJ.2.1 hf).2) (by omega) (fun t h => ?_) (fun t t' h h' => ?_) (fun t h => ?_) hq⟩
  · obtain ⟨z, _⟩ := h
    exact absurd z (by decide)
  · obtain ⟨_, q⟩ := h
    obtain ⟨_, q2⟩ := h'
    exact q.trans q2.symm
  · obtain ⟨_, z⟩ := h
    rw [z]; decide
theorem w_strike {g : xG} (hG : GK g) {K : Nat} {m : Mem} (hJ : JA K m) {x y : Int32} : CC g yL_strike (.codeWith yL_strike cL_strike 5 (some .int) [(0, 10, 13, 21), (0, 10, 17, 23)]) (4 + 1) 1 6 [.ref (ad g 0), .int x, .int y, .ref (ad g 373)] m (rI (WC m (ringM 0 x.toNatClampNeg y.toNatClampNeg (rem m)) (ringF m 0 x y) (pitchV ((rem m).1 (LK 0 x.toNatClampNeg + 1)) ((rem m).1 (LK 0 x.toNatClampNeg + 2)) y.toNatClampNeg) cStr)) noX := by
  refine (c_L_strike hG (c_X9_strike hG hJ.ci) (fun E m' h => ?_)).imp (fun r m' hq => ?_) (fun _ _ h => h)
  · rcases faultE_inv h.1 with ⟨e, rfl⟩ | ⟨e, rfl⟩ | ⟨e, rfl⟩ | ⟨e, rfl⟩
    · exact Or.inl (rfl)
    · rcases ringF_cs m 0 x y with q | q | q <;> (rw [q] at e; exact absurd e (by decide))
    · rcases ringF_cs m 0 x y with q | q | q <;> (rw [q] at e; exact absurd e (by decide))
    · exact Or.inr (rfl)
  · obtain ⟨v, e, hq⟩ := hq
    refine ⟨v, e, ?_⟩
    rcases hq with ⟨rfl, r0, m1, ⟨hf, rfl, rfl⟩, rfl⟩ | ⟨rfl, hx, rfl⟩ | ⟨rfl, hx, rfl⟩
    · exact Or.inl ⟨rfl, hf, rfl⟩
    · exact Or.inr ⟨Or.inl (⟨fault_IO hx, rfl⟩), rfl⟩
    · exact Or.inr ⟨Or.inr (⟨fault_UO hx, rfl⟩), rfl⟩
theorem n_strike {g : xG} (hG : GK g) {K : Nat} {m mA : Mem} (hJ : JA K m) {x y : Int32} {v : Int32} (hw : WC m (ringM 0 x.toNatClampNeg y.toNatClampNeg (rem m)) (ringF m 0 x y) (pitchV ((rem m).1 (LK 0 x.toNatClampNeg + 1)) ((rem m).1 (LK 0 x.toNatClampNeg + 2)) y.toNatClampNeg) cStr v mA) : CC g yX10_strike (.code yX10_strike cX10_strike 3 (some .int)) 9 0 0 [.ref (ad g 363), .int x, .int y] mA (rI (fun b m2 => LOut (K + 400) v b m2)) noX := by
  have hV : ringF m 0 x y = 45 → CV m (ringM 0 x.toNatClampNeg y.toNatClampNeg (rem m)) := fun hf => (chg_ring hJ.ci hJ.2.1 hf).1
  refine (c_X10_strike hG (m := mA) (M := m) (hw.js hJ hV)).imp (fun r m' hq => ?_) (fun _ _ h => h)
  obtain ⟨b, e, hq⟩ := hq
  refine ⟨b, e, hw.fin hJ hV (fun hf => (chg_ring hJ.ci hJ.2.1 hf).2) (by omega) (fun t h => ?_) (fun t t' h h' => ?_) (fun t h => ?_) hq⟩
  · rcases h with ⟨z, _⟩ | ⟨z, _⟩ <;> exact absurd z (by decide)
  · rcases h with ⟨z, q⟩ | ⟨z, q⟩ <;> rcases h' with ⟨z2, q2⟩ | ⟨z2, q2⟩ <;> first | exact q.trans q2.symm | exact absurd (z.symm.trans z2) (by decide)
  · rcases h with ⟨_, z⟩ | ⟨_, z⟩ <;> (rw [z]; decide)
theorem w_depth {g : xG} (hG : GK g) {K : Nat} {m : Mem} (hJ : JA K m) {x : Int32} : CC g yL_depth (.codeWith yL_depth cL_depth 4 (some .int) [(0, 9, 12, 21)]) (3 + 1) 1 6 [.ref (ad g 0), .int x, .ref (ad g 373)] m (rI (WA m (inL m x) (m.1 (LK 0 x.toNatClampNeg) 4))) noX := by
  refine (c_L_depth hG (c_X9_depth hG hJ.ci) (fun E m' h => ?_)).imp (fun r m' hq => ?_) (fun _ _ h => h)
  · exact h.1
  · obtain ⟨v, e, hq⟩ := hq
    refine ⟨v, e, ?_⟩
    rcases hq with ⟨rfl, r0, m1, ⟨hc, rfl, rfl⟩, rfl⟩ | ⟨rfl, _, hn, rfl⟩
    · exact Or.inl ⟨hc, rfl, rfl⟩
    · exact Or.inr ⟨hn, rfl, rfl⟩
theorem n_depth {g : xG} (hG : GK g) {K : Nat} {m mA : Mem} (hJ : JA K m) {x : Int32} {v : Int32} (hw : WA m (inL m x) (m.1 (LK 0 x.toNatClampNeg) 4) v mA) : CC g yX10_depth (.code yX10_depth cX10_depth 2 (some .int)) 5 0 0 [.ref (ad g 363), .int x] mA (rI (fun b m2 => LOut (K + 400) v b m2)) noX := by
  refine (c_X10_depth hG (hJ.rmr hw.rd)).imp (fun r m' hq => ?_) (fun _ _ h => h)
  obtain ⟨b, e, hq⟩ := hq
  exact ⟨b, e, hw.fin (hJ.mono (by omega)) hq⟩
theorem w_layerCount {g : xG} (hG : GK g) {K : Nat} {m : Mem} (hJ : JA K m) {x : Int32} : CC g yL_layerCount (.codeWith yL_layerCount cL_layerCount 4 (some .int) [(0, 9, 12, 21)]) (3 + 1) 1 6 [.ref (ad g 0), .int x, .ref (ad g 373)] m (rI (WA m (inL m x) (m.1 (LK 0 x.toNatClampNeg) 3))) noX := by
  refine (c_L_layerCount hG (c_X9_layerCount hG hJ.ci) (fun E m' h => ?_)).imp (fun r m' hq => ?_) (fun _ _ h => h)
  · exact h.1
  · obtain ⟨v, e, hq⟩ := hq
    refine ⟨v, e, ?_⟩
    rcases hq with ⟨rfl, r0, m1, ⟨hc, rfl, rfl⟩, rfl⟩ | ⟨rfl, _, hn, rfl⟩
    · exact Or.inl ⟨hc, rfl, rfl⟩
    · exact Or.inr ⟨hn, rfl, rfl⟩
theorem n_layerCount {g : xG} (hG : GK g) {K : Nat} {m mA : Mem} (hJ : JA K m) {x : Int32} {v : Int32} (hw : WA m (inL m x) (m.1 (LK 0 x.toNatClampNeg) 3) v mA) : CC g yX10_layerCount (.code yX10_layerCount cX10_layerCount 2 (some .int)) 5 0 0 [.ref (ad g 363), .int x] mA (rI (fun b m2 => LOut (K + 400) v b m2)) noX := by
  refine (c_X10_layerCount hG (hJ.rmr hw.rd)).imp (fun r m' hq => ?_) (fun _ _ h => h)
  obtain ⟨b, e, hq⟩ := hq
  exact ⟨b, e, hw.fin (hJ.mono (by omega)) hq⟩
theorem w_cracksOf {g : xG} (hG : GK g) {K : Nat} {m : Mem} (hJ : JA K m) {x : Int32} : CC g yL_cracksOf (.codeWith yL_cracksOf cL_cracksOf 4 (some .int) [(0, 9, 12, 21)]) (3 + 1) 1 6 [.ref (ad g 0), .int x, .ref (ad g 373)] m (rI (WA m (inL m x) (m.1 (LK 0 x.toNatClampNeg) 5))) noX := by
  refine (c_L_cracksOf hG (c_X9_cracksOf hG hJ.ci) (fun E m' h => ?_)).imp (fun r m' hq => ?_) (fun _ _ h => h)
  · exact h.1
  · obtain ⟨v, e, hq⟩ := hq
    refine ⟨v, e, ?_⟩
    rcases hq with ⟨rfl, r0, m1, ⟨hc, rfl, rfl⟩, rfl⟩ | ⟨rfl, _, hn, rfl⟩
    · exact Or.inl ⟨hc, rfl, rfl⟩
    · exact Or.inr ⟨hn, rfl, rfl⟩
theorem n_cracksOf {g : xG} (hG : GK g) {K : Nat} {m mA : Mem} (hJ : JA K m) {x : Int32} {v : Int32} (hw : WA m (inL m x) (m.1 (LK 0 x.toNatClampNeg) 5) v mA) : CC g yX10_cracksOf (.code yX10_cracksOf cX10_cracksOf 2 (some .int)) 5 0 0 [.ref (ad g 363), .int x] mA (rI (fun b m2 => LOut (K + 400) v b m2)) noX := by
  refine (c_X10_cracksOf hG (hJ.rmr hw.rd)).imp (fun r m' hq => ?_) (fun _ _ h => h)
  obtain ⟨b, e, hq⟩ := hq
  exact ⟨b, e, hw.fin (hJ.mono (by omega)) hq⟩
theorem w_thickness {g : xG} (hG : GK g) {K : Nat} {m : Mem} (hJ : JA K m) {x y : Int32} : CC g yL_thickness (.codeWith yL_thickness cL_thickness 5 (some .int) [(0, 10, 13, 21)]) (4 + 1) 2 12 [.ref (ad g 0), .int x, .int y, .ref (ad g 373)] m (rI (WA m (inY m x y) (m.1 (LK 0 x.toNatClampNeg + 1) y.toNatClampNeg))) noX := by
  refine (c_L_thickness hG (c_X9_thickness hG hJ.ci) (fun E m' h => ?_)).imp (fun r m' hq => ?_) (fun _ _ h => h)
  · exact h.1
  · obtain ⟨v, e, hq⟩ := hq
    refine ⟨v, e, ?_⟩
    rcases hq with ⟨rfl, r0, m1, ⟨hc, rfl, rfl⟩, rfl⟩ | ⟨rfl, _, hn, rfl⟩
    · exact Or.inl ⟨hc, rfl, rfl⟩
    · exact Or.inr ⟨hn, rfl, rfl⟩
theorem n_thickness {g : xG} (hG : GK g) {K : Nat} {m mA : Mem} (hJ : JA K m) {x y : Int32} {v : Int32} (hw : WA m (inY m x y) (m.1 (LK 0 x.toNatClampNeg + 1) y.toNatClampNeg) v mA) : CC g yX10_thickness (.code yX10_thickness cX10_thickness 3 (some .int)) 7 0 0 [.ref (ad g 363), .int x, .int y] mA (rI (fun b m2 => LOut (K + 400) v b m2)) noX := by
  refine (c_X10_thickness hG (hJ.rmr hw.rd)).imp (fun r m' hq => ?_) (fun _ _ h => h)
  obtain ⟨b, e, hq⟩ := hq
  exact ⟨b, e, hw.fin (hJ.mono (by omega)) hq⟩
theorem w_temperature {g : xG} (hG : GK g) {K : Nat} {m : Mem} (hJ : JA K m) {x y : Int32} : CC g yL_temperature (.codeWith yL_temperature cL_temperature 5 (some .int) [(0, 10, 13, 21)]) (4 + 1) 2 12 [.ref (ad g 0), .int x, .int y, .ref (ad g 373)] m (rI (WA m (inY m x y) (m.1 (LK 0 x.toNatClampNeg + 2) y.toNatClampNeg))) noX := by
  refine (c_L_temperature hG (c_X9_temperature hG hJ.ci) (fun E m' h => ?_)).imp (fun r m' hq => ?_) (fun _ _ h => h)
  · exact h.1
  · obtain ⟨v, e, hq⟩ := hq
    refine ⟨v, e, ?_⟩
    rcases hq with ⟨rfl, r0, m1, ⟨hc, rfl, rfl⟩, rfl⟩ | ⟨rfl, _, hn, rfl⟩
    · exact Or.inl ⟨hc, rfl, rfl⟩
    · exact Or.inr ⟨hn, rfl, rfl⟩
theorem n_temperature {g : xG} (hG : GK g) {K : Nat} {m mA : Mem} (hJ : JA K m) {x y : Int32} {v : Int32} (hw : WA m (inY m x y) (m.1 (LK 0 x.toNatClampNeg + 2) y.toNatClampNeg) v mA) : CC g yX10_temperature (.code yX10_temperature cX10_temperature 3 (some .int)) 7 0 0 [.ref (ad g 363), .int x, .int y] mA (rI (fun b m2 => LOut (K + 400) v b m2)) noX := by
  refine (c_X10_temperature hG (hJ.rmr hw.rd)).imp (fun r m' hq => ?_) (fun _ _ h => h)
  obtain ⟨b, e, hq⟩ := hq
  exact ⟨b, e, hw.fin (hJ.mono (by omega)) hq⟩
theorem w_strain {g : xG} (hG : GK g) {K : Nat} {m : Mem} (hJ : JA K m) {x y : Int32} : CC g yL_strain (.codeWith yL_strain cL_strain 5 (some .int) [(0, 10, 13, 21)]) (4 + 1) 2 12 [.ref (ad g 0), .int x, .int y, .ref (ad g 373)] m (rI (WA m (inY m x y) (m.1 (LK 0 x.toNatClampNeg + 3) y.toNatClampNeg))) noX := by
  refine (c_L_strain hG (c_X9_strain hG hJ.ci) (fun E m' h => ?_)).imp (fun r m' hq => ?_) (fun _ _ h => h)
  · exact h.1
  · obtain ⟨v, e, hq⟩ := hq
    refine ⟨v, e, ?_⟩
    rcases hq with ⟨rfl, r0, m1, ⟨hc, rfl, rfl⟩, rfl⟩ | ⟨rfl, _, hn, rfl⟩
    · exact Or.inl ⟨hc, rfl, rfl⟩
    · exact Or.inr ⟨hn, rfl, rfl⟩
theorem n_strain {g : xG} (hG : GK g) {K : Nat} {m mA : Mem} (hJ : JA K m) {x y : Int32} {v : Int32} (hw : WA m (inY m x y) (m.1 (LK 0 x.toNatClampNeg + 3) y.toNatClampNeg) v mA) : CC g yX10_strain (.code yX10_strain cX10_strain 3 (some .int)) 7 0 0 [.ref (ad g 363), .int x, .int y] mA (rI (fun b m2 => LOut (K + 400) v b m2)) noX := by
  refine (c_X10_strain hG (hJ.rmr hw.rd)).imp (fun r m' hq => ?_) (fun _ _ h => h)
  obtain ⟨b, e, hq⟩ := hq
  exact ⟨b, e, hw.fin (hJ.mono (by omega)) hq⟩
theorem w_iceThickness {g : xG} (hG : GK g) {K : Nat} {m : Mem} (hJ : JA K m) {x : Int32} : CC g yL_iceThickness (.codeWith yL_iceThickness cL_iceThickness 4 (some .int) [(0, 9, 12, 21)]) (6 + 1) 1 6 [.ref (ad g 0), .int x, .ref (ad g 373)] m (rI (WA m (inL m x) (iceV m 0 x.toNatClampNeg))) noX := by
  refine (c_L_iceThickness hG (c_X9_iceThickness hG hJ.ci) (fun E m' h => ?_)).imp (fun r m' hq => ?_) (fun _ _ h => h)
  · exact h.1
  · obtain ⟨v, e, hq⟩ := hq
    refine ⟨v, e, ?_⟩
    rcases hq with ⟨rfl, r0, m1, ⟨hc, rfl, rfl⟩, rfl⟩ | ⟨rfl, _, hn, rfl⟩
    · exact Or.inl ⟨hc, rfl, rfl⟩
    · exact Or.inr ⟨hn, rfl, rfl⟩
theorem n_iceThickness {g : xG} (hG : GK g) {K : Nat} {m mA : Mem} (hJ : JA K m) {x : Int32} {v : Int32} (hw : WA m (inL m x) (iceV m 0 x.toNatClampNeg) v mA) : CC g yX10_iceThickness (.code yX10_iceThickness cX10_iceThickness 2 (some .int)) 7 0 0 [.ref (ad g 363), .int x] mA (rI (fun b m2 => LOut (K + 400) v b m2)) noX := by
  refine (c_X10_iceThickness hG (hJ.rmr hw.rd)).imp (fun r m' hq => ?_) (fun _ _ h => h)
  obtain ⟨b, e, hq⟩ := hq
  exact ⟨b, e, hw.fin (hJ.mono (by omega)) hq⟩
theorem w_iceThicknessByHalves {g : xG} (hG : GK g) {K : Nat} {m : Mem} (hJ : JA K m) {x : Int32} : CC g yL_iceThicknessByHalves (.codeWith yL_iceThicknessByHalves cL_iceThicknessByHalves 4 (some .int) [(0, 9, 12, 21)]) (6 + 1) 1 6 [.ref (ad g 0), .int x, .ref (ad g 373)] m (rI (WA m (inL m x) (iceV m 0 x.toNatClampNeg))) noX := by
  refine (c_L_iceThicknessByHalves hG (c_X9_iceThicknessByHalves hG hJ.ci) (fun E m' h => ?_)).imp (fun r m' hq => ?_) (fun _ _ h => h)
  · exact h.1
  · obtain ⟨v, e, hq⟩ := hq
    refine ⟨v, e, ?_⟩
    rcases hq with ⟨rfl, r0, m1, ⟨hc, rfl, rfl⟩, rfl⟩ | ⟨rfl, _, hn, rfl⟩
    · exact Or.inl ⟨hc, rfl, rfl⟩
    · exact Or.inr ⟨hn, rfl, rfl⟩
theorem n_iceThicknessByHalves {g : xG} (hG : GK g) {K : Nat} {m mA : Mem} (hJ : JA K m) {x : Int32} {v : Int32} (hw : WA m (inL m x) (iceV m 0 x.toNatClampNeg) v mA) : CC g yX10_iceThicknessByHalves (.code yX10_iceThicknessByHalves cX10_iceThicknessByHalves 2 (some .int)) 7 0 0 [.ref (ad g 363), .int x] mA (rI (fun b m2 => LOut (K + 400) v b m2)) noX := by
  refine (c_X10_iceThicknessByHalves hG (hJ.rmr hw.rd)).imp (fun r m' hq => ?_) (fun _ _ h => h)
  obtain ⟨b, e, hq⟩ := hq
  exact ⟨b, e, hw.fin (hJ.mono (by omega)) hq⟩
theorem w_pealKind {g : xG} (hG : GK g) {K : Nat} {m : Mem} (hJ : JA K m) {x : Int32} : CC g yL_pealKind (.codeWith yL_pealKind cL_pealKind 4 (some .int) [(0, 9, 12, 50)]) (4 + 1) 1 6 [.ref (ad g 0), .int x, .ref (ad g 373)] m (rI (WA m (inP m x) (m.1 (LA 0 + 6) ((wOf m 0 + 15 - x.toNatClampNeg) % 16)))) noX := by
  refine (c_L_pealKind hG (c_X9_pealKind hG hJ.ci) (fun E m' h => ?_)).imp (fun r m' hq => ?_) (fun _ _ h => h)
  · exact h.1
  · obtain ⟨v, e, hq⟩ := hq
    refine ⟨v, e, ?_⟩
    rcases hq with ⟨rfl, r0, m1, ⟨hc, rfl, rfl⟩, rfl⟩ | ⟨rfl, _, hn, rfl⟩
    · exact Or.inl ⟨hc, rfl, rfl⟩
    · exact Or.inr ⟨hn, rfl, rfl⟩
theorem n_pealKind {g : xG} (hG : GK g) {K : Nat} {m mA : Mem} (hJ : JA K m) {x : Int32} {v : Int32} (hw : WA m (inP m x) (m.1 (LA 0 + 6) ((wOf m 0 + 15 - x.toNatClampNeg) % 16)) v mA) : CC g yX10_pealKind (.code yX10_pealKind cX10_pealKind 2 (some .char)) 4 0 0 [.ref (ad g 363), .int x] mA (rI (fun b m2 => LOut (K + 400) v b m2)) noX := by
  refine (c_X10_pealKind hG (hJ.rmr hw.rd)).imp (fun r m' hq => ?_) (fun _ _ h => h)
  obtain ⟨b, e, hq⟩ := hq
  exact ⟨b, e, hw.fin (hJ.mono (by omega)) hq⟩
theorem w_pealLake {g : xG} (hG : GK g) {K : Nat} {m : Mem} (hJ : JA K m) {x : Int32} : CC g yL_pealLake (.codeWith yL_pealLake cL_pealLake 4 (some .int) [(0, 9, 12, 50)]) (4 + 1) 1 6 [.ref (ad g 0), .int x, .ref (ad g 373)] m (rI (WA m (inP m x) (m.1 (LA 0 + 7) ((wOf m 0 + 15 - x.toNatClampNeg) % 16)))) noX := by
  refine (c_L_pealLake hG (c_X9_pealLake hG hJ.ci) (fun E m' h => ?_)).imp (fun r m' hq => ?_) (fun _ _ h => h)
  · exact h.1
  · obtain ⟨v, e, hq⟩ := hq
    refine ⟨v, e, ?_⟩
    rcases hq with ⟨rfl, r0, m1, ⟨hc, rfl, rfl⟩, rfl⟩ | ⟨rfl, _, hn, rfl⟩
    · exact Or.inl ⟨hc, rfl, rfl⟩
    · exact Or.inr ⟨hn, rfl, rfl⟩
theorem n_pealLake {g : xG} (hG : GK g) {K : Nat} {m mA : Mem} (hJ : JA K m) {x : Int32} {v : Int32} (hw : WA m (inP m x) (m.1 (LA 0 + 7) ((wOf m 0 + 15 - x.toNatClampNeg) % 16)) v mA) : CC g yX10_pealLake (.code yX10_pealLake cX10_pealLake 2 (some .int)) 4 0 0 [.ref (ad g 363), .int x] mA (rI (fun b m2 => LOut (K + 400) v b m2)) noX := by
  refine (c_X10_pealLake hG (hJ.rmr hw.rd)).imp (fun r m' hq => ?_) (fun _ _ h => h)
  obtain ⟨b, e, hq⟩ := hq
  exact ⟨b, e, hw.fin (hJ.mono (by omega)) hq⟩
theorem w_pealPitch {g : xG} (hG : GK g) {K : Nat} {m : Mem} (hJ : JA K m) {x : Int32} : CC g yL_pealPitch (.codeWith yL_pealPitch cL_pealPitch 4 (some .int) [(0, 9, 12, 50)]) (4 + 1) 1 6 [.ref (ad g 0), .int x, .ref (ad g 373)] m (rI (WA m (inP m x) (m.1 (LA 0 + 8) ((wOf m 0 + 15 - x.toNatClampNeg) % 16)))) noX := by
  refine (c_L_pealPitch hG (c_X9_pealPitch hG hJ.ci) (fun E m' h => ?_)).imp (fun r m' hq => ?_) (fun _ _ h => h)
  · exact h.1
  · obtain ⟨v, e, hq⟩ := hq
    refine ⟨v, e, ?_⟩
    rcases hq with ⟨rfl, r0, m1, ⟨hc, rfl, rfl⟩, rfl⟩ | ⟨rfl, _, hn, rfl⟩
    · exact Or.inl ⟨hc, rfl, rfl⟩
    · exact Or.inr ⟨hn, rfl, rfl⟩
theorem n_pealPitch {g : xG} (hG : GK g) {K : Nat} {m mA : Mem} (hJ : JA K m) {x : Int32} {v : Int32} (hw : WA m (inP m x) (m.1 (LA 0 + 8) ((wOf m 0 + 15 - x.toNatClampNeg) % 16)) v mA) : CC g yX10_pealPitch (.code yX10_pealPitch cX10_pealPitch 2 (some .int)) 4 0 0 [.ref (ad g 363), .int x] mA (rI (fun b m2 => LOut (K + 400) v b m2)) noX := by
  refine (c_X10_pealPitch hG (hJ.rmr hw.rd)).imp (fun r m' hq => ?_) (fun _ _ h => h)
  obtain ⟨b, e, hq⟩ := hq
  exact ⟨b, e, hw.fin (hJ.mono (by omega)) hq⟩
theorem w_pealHour {g : xG} (hG : GK g) {K : Nat} {m : Mem} (hJ : JA K m) {x : Int32} : CC g yL_pealHour (.codeWith yL_pealHour cL_pealHour 4 (some .int) [(0, 9, 12, 50)]) (4 + 1) 1 6 [.ref (ad g 0), .int x, .ref (ad g 373)] m (rI (WA m (inP m x) (m.1 (LA 0 + 9) ((wOf m 0 + 15 - x.toNatClampNeg) % 16)))) noX := by
  refine (c_L_pealHour hG (c_X9_pealHour hG hJ.ci) (fun E m' h => ?_)).imp (fun r m' hq => ?_) (fun _ _ h => h)
  · exact h.1
  · obtain ⟨v, e, hq⟩ := hq
    refine ⟨v, e, ?_⟩
    rcases hq with ⟨rfl, r0, m1, ⟨hc, rfl, rfl⟩, rfl⟩ | ⟨rfl, _, hn, rfl⟩
    · exact Or.inl ⟨hc, rfl, rfl⟩
    · exact Or.inr ⟨hn, rfl, rfl⟩
theorem n_pealHour {g : xG} (hG : GK g) {K : Nat} {m mA : Mem} (hJ : JA K m) {x : Int32} {v : Int32} (hw : WA m (inP m x) (m.1 (LA 0 + 9) ((wOf m 0 + 15 - x.toNatClampNeg) % 16)) v mA) : CC g yX10_pealHour (.code yX10_pealHour cX10_pealHour 2 (some .int)) 4 0 0 [.ref (ad g 363), .int x] mA (rI (fun b m2 => LOut (K + 400) v b m2)) noX := by
  refine (c_X10_pealHour hG (hJ.rmr hw.rd)).imp (fun r m' hq => ?_) (fun _ _ h => h)
  obtain ⟨b, e, hq⟩ := hq
  exact ⟨b, e, hw.fin (hJ.mono (by omega)) hq⟩
theorem w_windowFirst {g : xG} (hG : GK g) {K : Nat} {m : Mem} (hJ : JA K m) {x : Int32} : CC g yL_windowFirst (.codeWith yL_windowFirst cL_windowFirst 4 (some .int) [(0, 9, 12, 21)]) (3 + 1) 1 6 [.ref (ad g 0), .int x, .ref (ad g 373)] m (rI (WA m (0 ≤ x ∧ x < nI (nWn m 0)) (m.1 (LA 0 + 3) x.toNatClampNeg))) noX := by
  refine (c_L_windowFirst hG (c_X9_windowFirst hG hJ.ci) (fun E m' h => ?_)).imp (fun r m' hq => ?_) (fun _ _ h => h)
  · rcases faultE_inv h.1 with ⟨e, rfl⟩ | ⟨e, rfl⟩ | ⟨e, rfl⟩ | ⟨e, rfl⟩
    · rfl
    · rcases openF_cs m 0 x with q | q <;> (rw [q] at e; exact absurd e (by decide))
    · rcases openF_cs m 0 x with q | q <;> (rw [q] at e; exact absurd e (by decide))
    · rcases openF_cs m 0 x with q | q <;> (rw [q] at e; exact absurd e (by decide))
  · obtain ⟨v, e, hq⟩ := hq
    refine ⟨v, e, ?_⟩
    rcases hq with ⟨rfl, r0, m1, ⟨hc, rfl, rfl⟩, rfl⟩ | ⟨rfl, hn, rfl⟩
    · exact Or.inl ⟨openF_ok hc, rfl, rfl⟩
    · refine Or.inr ⟨fun hc => ?_, rfl, rfl⟩
      have h98 := fault_IO hn
      unfold openF at h98
      rw [if_pos hc] at h98
      exact absurd h98 (by decide)
theorem n_windowFirst {g : xG} (hG : GK g) {K : Nat} {m mA : Mem} (hJ : JA K m) {x : Int32} {v : Int32} (hw : WA m (0 ≤ x ∧ x < nI (nWn m 0)) (m.1 (LA 0 + 3) x.toNatClampNeg) v mA) : CC g yX10_windowFirst (.code yX10_windowFirst cX10_windowFirst 2 (some .int)) 4 0 0 [.ref (ad g 363), .int x] mA (rI (fun b m2 => LOut (K + 400) v b m2)) noX := by
  refine (c_X10_windowFirst hG (hJ.rmr hw.rd)).imp (fun r m' hq => ?_) (fun _ _ h => h)
  obtain ⟨b, e, hq⟩ := hq
  exact ⟨b, e, hw.fin (hJ.mono (by omega)) hq⟩
theorem w_windowLast {g : xG} (hG : GK g) {K : Nat} {m : Mem} (hJ : JA K m) {x : Int32} : CC g yL_windowLast (.codeWith yL_windowLast cL_windowLast 4 (some .int) [(0, 9, 12, 21)]) (3 + 1) 1 6 [.ref (ad g 0), .int x, .ref (ad g 373)] m (rI (WA m (0 ≤ x ∧ x < nI (nWn m 0)) (m.1 (LA 0 + 4) x.toNatClampNeg))) noX := by
  refine (c_L_windowLast hG (c_X9_windowLast hG hJ.ci) (fun E m' h => ?_)).imp (fun r m' hq => ?_) (fun _ _ h => h)
  · rcases faultE_inv h.1 with ⟨e, rfl⟩ | ⟨e, rfl⟩ | ⟨e, rfl⟩ | ⟨e, rfl⟩
    · rfl
    · rcases openF_cs m 0 x with q | q <;> (rw [q] at e; exact absurd e (by decide))
    · rcases openF_cs m 0 x with q | q <;> (rw [q] at e; exact absurd e (by decide))
    · rcases openF_cs m 0 x with q | q <;> (rw [q] at e; exact absurd e (by decide))
  · obtain ⟨v, e, hq⟩ := hq
    refine ⟨v, e, ?_⟩
    rcases hq with ⟨rfl, r0, m1, ⟨hc, rfl, rfl⟩, rfl⟩ | ⟨rfl, hn, rfl⟩
    · exact Or.inl ⟨openF_ok hc, rfl, rfl⟩
    · refine Or.inr ⟨fun hc => ?_, rfl, rfl⟩
      have h98 := fault_IO hn
      unfold openF at h98
      rw [if_pos hc] at h98
      exact absurd h98 (by decide)
theorem n_windowLast {g : xG} (hG : GK g) {K : Nat} {m mA : Mem} (hJ : JA K m) {x : Int32} {v : Int32} (hw : WA m (0 ≤ x ∧ x < nI (nWn m 0)) (m.1 (LA 0 + 4) x.toNatClampNeg) v mA) : CC g yX10_windowLast (.code yX10_windowLast cX10_windowLast 2 (some .int)) 4 0 0 [.ref (ad g 363), .int x] mA (rI (fun b m2 => LOut (K + 400) v b m2)) noX := by
  refine (c_X10_windowLast hG (hJ.rmr hw.rd)).imp (fun r m' hq => ?_) (fun _ _ h => h)
  obtain ⟨b, e, hq⟩ := hq
  exact ⟨b, e, hw.fin (hJ.mono (by omega)) hq⟩
theorem w_errorPosition {g : xG} (hG : GK g) {K : Nat} {m : Mem} (hJ : JA K m) : CC g yL_errorPosition (.codeWith yL_errorPosition cL_errorPosition 3 (some .int) [(0, 8, 11, 50)]) (1 + 1) 1 6 [.ref (ad g 0), .ref (ad g 373)] m (rI (WA m (¬ m.1 0 6 = -1) (m.1 0 6))) noX := by
  refine (c_L_errorPosition hG (c_X9_errorPosition hG) (fun E m' h => ?_)).imp (fun r m' hq => ?_) (fun _ _ h => h)
  · exact h.1
  · obtain ⟨v, e, hq⟩ := hq
    refine ⟨v, e, ?_⟩
    rcases hq with ⟨rfl, r0, m1, ⟨rfl, hc, rfl⟩, rfl⟩ | ⟨rfl, _, hn, rfl⟩
    · exact Or.inl ⟨hc, rfl, rfl⟩
    · exact Or.inr ⟨fun z => z hn, rfl, rfl⟩
theorem n_errorPosition {g : xG} (hG : GK g) {K : Nat} {m mA : Mem} (hJ : JA K m) {v : Int32} (hw : WA m (¬ m.1 0 6 = -1) (m.1 0 6) v mA) : CC g yX10_errorPosition (.code yX10_errorPosition cX10_errorPosition 1 (some .int)) 3 0 0 [.ref (ad g 363)] mA (rI (fun b m2 => LOut (K + 400) v b m2)) noX := by
  refine (c_X10_errorPosition hG ).imp (fun r m' hq => ?_) (fun _ _ h => h)
  obtain ⟨b, e, hq⟩ := hq
  have e7 : mA.1 363 7 = m.1 0 6 := (hw.rd.2.2 7 (by decide)).trans hJ.2.2.2.2.2.1
  rw [e7] at hq
  exact ⟨b, e, hw.fin (hJ.mono (by omega)) hq⟩
theorem w_failedCommand {g : xG} (hG : GK g) {K : Nat} {m : Mem} (hJ : JA K m) : CC g yL_failedCommand (.codeWith yL_failedCommand cL_failedCommand 3 (some .int) [(0, 8, 11, 50)]) (1 + 1) 1 6 [.ref (ad g 0), .ref (ad g 373)] m (rI (WA m (¬ m.1 0 7 = -1) (m.1 0 7))) noX := by
  refine (c_L_failedCommand hG (c_X9_failedCommand hG) (fun E m' h => ?_)).imp (fun r m' hq => ?_) (fun _ _ h => h)
  · exact h.1
  · obtain ⟨v, e, hq⟩ := hq
    refine ⟨v, e, ?_⟩
    rcases hq with ⟨rfl, r0, m1, ⟨rfl, hc, rfl⟩, rfl⟩ | ⟨rfl, _, hn, rfl⟩
    · exact Or.inl ⟨hc, rfl, rfl⟩
    · exact Or.inr ⟨fun z => z hn, rfl, rfl⟩
theorem n_failedCommand {g : xG} (hG : GK g) {K : Nat} {m mA : Mem} (hJ : JA K m) {v : Int32} (hw : WA m (¬ m.1 0 7 = -1) (m.1 0 7) v mA) : CC g yX10_failedCommand (.code yX10_failedCommand cX10_failedCommand 1 (some .int)) 3 0 0 [.ref (ad g 363)] mA (rI (fun b m2 => LOut (K + 400) v b m2)) noX := by
  refine (c_X10_failedCommand hG ).imp (fun r m' hq => ?_) (fun _ _ h => h)
  obtain ⟨b, e, hq⟩ := hq
  have e7 : mA.1 363 8 = m.1 0 7 := (hw.rd.2.2 8 (by decide)).trans hJ.2.2.2.2.2.2.1
  rw [e7] at hq
  exact ⟨b, e, hw.fin (hJ.mono (by omega)) hq⟩
theorem w_failureKind {g : xG} (hG : GK g) {K : Nat} {m : Mem} (hJ : JA K m) : CC g yL_failureKind (.codeWith yL_failureKind cL_failureKind 3 (some .int) [(0, 8, 11, 50)]) (1 + 1) 1 6 [.ref (ad g 0), .ref (ad g 373)] m (rI (WA m (¬ m.1 0 7 = -1) (m.1 0 8))) noX := by
  refine (c_L_failureKind hG (c_X9_failureKind hG hJ.2.2.2.2.2.2.2.2.1) (fun E m' h => ?_)).imp (fun r m' hq => ?_) (fun _ _ h => h)
  · exact h.1
  · obtain ⟨v, e, hq⟩ := hq
    refine ⟨v, e, ?_⟩
    rcases hq with ⟨rfl, r0, m1, ⟨rfl, hc, rfl⟩, rfl⟩ | ⟨rfl, _, hn, rfl⟩
    · exact Or.inl ⟨hc, rfl, rfl⟩
    · exact Or.inr ⟨fun z => z hn, rfl, rfl⟩
theorem n_failureKind {g : xG} (hG : GK g) {K : Nat} {m mA : Mem} (hJ : JA K m) {v : Int32} (hw : WA m (¬ m.1 0 7 = -1) (m.1 0 8) v mA) : CC g yX10_failureKind (.code yX10_failureKind cX10_failureKind 1 (some .char)) 3 0 0 [.ref (ad g 363)] mA (rI (fun b m2 => LOut (K + 400) v b m2)) noX := by
  refine (c_X10_failureKind hG (by rw [hw.rd.2.2 9 (by decide)]; exact hJ.2.2.2.2.2.2.2.2.2.1)).imp (fun r m' hq => ?_) (fun _ _ h => h)
  obtain ⟨b, e, hq⟩ := hq
  have e7 : mA.1 363 8 = m.1 0 7 := (hw.rd.2.2 8 (by decide)).trans hJ.2.2.2.2.2.2.1
  rw [e7] at hq
  replace hq := hq.imp (fun hc => (hw.rd.2.2 9 (by decide)).trans (hJ.2.2.2.2.2.2.2.1 hc))
  exact ⟨b, e, hw.fin (hJ.mono (by omega)) hq⟩
theorem w_lakeCount {g : xG} (hG : GK g) {K : Nat} {m : Mem} (hJ : JA K m) : CC g yX9_lakeCount (.code yX9_lakeCount cX9_lakeCount 1 (some .int)) 1 0 0 [.ref (ad g 0)] m (rI (fun v mA => v = m.1 (LA 0) 1 ∧ RD m mA)) noX := by
  refine (c_X9_lakeCount hG ).imp (fun r m' hq => ?_) (fun _ _ h => h)
  obtain ⟨v, e, hq⟩ := hq
  refine ⟨v, e, ?_⟩
  obtain ⟨hv, hm⟩ := hq
  exact ⟨hv, hm ▸ RD.refl _⟩
theorem n_lakeCount {g : xG} (hG : GK g) {K : Nat} {m mA : Mem} (hJ : JA K m) (hw : RD m mA) : CC g yX10_lakeCount (.code yX10_lakeCount cX10_lakeCount 1 (some .int)) 1 0 0 [.ref (ad g 363)] mA (rI (fun b m2 => b = m.1 (LA 0) 1 ∧ JA (K + 400) m2)) noX := by
  refine (c_X10_lakeCount hG (hJ.rmr hw)).imp (fun r m' hq => ?_) (fun _ _ h => h)
  obtain ⟨b, e, hb, hm⟩ := hq
  exact ⟨b, e, hb, (hJ.read (hw.trans (hm ▸ RD.thr _ _))).mono (by omega)⟩
theorem w_air {g : xG} (hG : GK g) {K : Nat} {m : Mem} (hJ : JA K m) : CC g yX9_air (.code yX9_air cX9_air 1 (some .int)) 1 0 0 [.ref (ad g 0)] m (rI (fun v mA => v = m.1 (LA 0) 2 ∧ RD m mA)) noX := by
  refine (c_X9_air hG ).imp (fun r m' hq => ?_) (fun _ _ h => h)
  obtain ⟨v, e, hq⟩ := hq
  refine ⟨v, e, ?_⟩
  obtain ⟨hv, hm⟩ := hq
  exact ⟨hv, hm ▸ RD.refl _⟩
theorem n_air {g : xG} (hG : GK g) {K : Nat} {m mA : Mem} (hJ : JA K m) (hw : RD m mA) : CC g yX10_air (.code yX10_air cX10_air 1 (some .int)) 1 0 0 [.ref (ad g 363)] mA (rI (fun b m2 => b = m.1 (LA 0) 2 ∧ JA (K + 400) m2)) noX := by
  refine (c_X10_air hG (hJ.rmr hw)).imp (fun r m' hq => ?_) (fun _ _ h => h)
  obtain ⟨b, e, hb, hm⟩ := hq
  exact ⟨b, e, hb, (hJ.read (hw.trans (hm ▸ RD.thr _ _))).mono (by omega)⟩
theorem w_hour {g : xG} (hG : GK g) {K : Nat} {m : Mem} (hJ : JA K m) : CC g yX9_hour (.code yX9_hour cX9_hour 1 (some .int)) 1 0 0 [.ref (ad g 0)] m (rI (fun v mA => v = m.1 (LA 0) 3 ∧ RD m mA)) noX := by
  refine (c_X9_hour hG ).imp (fun r m' hq => ?_) (fun _ _ h => h)
  obtain ⟨v, e, hq⟩ := hq
  refine ⟨v, e, ?_⟩
  obtain ⟨hv, hm⟩ := hq
  exact ⟨hv, hm ▸ RD.refl _⟩
theorem n_hour {g : xG} (hG : GK g) {K : Nat} {m mA : Mem} (hJ : JA K m) (hw : RD m mA) : CC g yX10_hour (.code yX10_hour cX10_hour 1 (some .int)) 1 0 0 [.ref (ad g 363)] mA (rI (fun b m2 => b = m.1 (LA 0) 3 ∧ JA (K + 400) m2)) noX := by
  refine (c_X10_hour hG (hJ.rmr hw)).imp (fun r m' hq => ?_) (fun _ _ h => h)
  obtain ⟨b, e, hb, hm⟩ := hq
  exact ⟨b, e, hb, (hJ.read (hw.trans (hm ▸ RD.thr _ _))).mono (by omega)⟩
theorem w_windowCount {g : xG} (hG : GK g) {K : Nat} {m : Mem} (hJ : JA K m) : CC g yX9_windowCount (.code yX9_windowCount cX9_windowCount 1 (some .int)) 1 0 0 [.ref (ad g 0)] m (rI (fun v mA => v = m.1 (LA 0 + 2) 2 ∧ RD m mA)) noX := by
  refine (c_X9_windowCount hG ).imp (fun r m' hq => ?_) (fun _ _ h => h)
  obtain ⟨v, e, hq⟩ := hq
  refine ⟨v, e, ?_⟩
  obtain ⟨hv, hm⟩ := hq
  exact ⟨hv, hm ▸ RD.refl _⟩
theorem n_windowCount {g : xG} (hG : GK g) {K : Nat} {m mA : Mem} (hJ : JA K m) (hw : RD m mA) : CC g yX10_windowCount (.code yX10_windowCount cX10_windowCount 1 (some .int)) 1 0 0 [.ref (ad g 363)] mA (rI (fun b m2 => b = m.1 (LA 0 + 2) 2 ∧ JA (K + 400) m2)) noX := by
  refine (c_X10_windowCount hG (hJ.rmr hw)).imp (fun r m' hq => ?_) (fun _ _ h => h)
  obtain ⟨b, e, hb, hm⟩ := hq
  exact ⟨b, e, hb, (hJ.read (hw.trans (hm ▸ RD.thr _ _))).mono (by omega)⟩
theorem w_pealCount {g : xG} (hG : GK g) {K : Nat} {m : Mem} (hJ : JA K m) : CC g yX9_pealCount (.code yX9_pealCount cX9_pealCount 1 (some .int)) 1 0 0 [.ref (ad g 0)] m (rI (fun v mA => v = m.1 (LA 0 + 5) 4 ∧ RD m mA)) noX := by
  refine (c_X9_pealCount hG ).imp (fun r m' hq => ?_) (fun _ _ h => h)
  obtain ⟨v, e, hq⟩ := hq
  refine ⟨v, e, ?_⟩
  obtain ⟨hv, hm⟩ := hq
  exact ⟨hv, hm ▸ RD.refl _⟩
theorem n_pealCount {g : xG} (hG : GK g) {K : Nat} {m mA : Mem} (hJ : JA K m) (hw : RD m mA) : CC g yX10_pealCount (.code yX10_pealCount cX10_pealCount 1 (some .int)) 1 0 0 [.ref (ad g 363)] mA (rI (fun b m2 => b = m.1 (LA 0 + 5) 4 ∧ JA (K + 400) m2)) noX := by
  refine (c_X10_pealCount hG (hJ.rmr hw)).imp (fun r m' hq => ?_) (fun _ _ h => h)
  obtain ⟨b, e, hb, hm⟩ := hq
  exact ⟨b, e, hb, (hJ.read (hw.trans (hm ▸ RD.thr _ _))).mono (by omega)⟩
theorem w_frozenTotal {g : xG} (hG : GK g) {K : Nat} {m : Mem} (hJ : JA K m) : CC g yX9_frozenTotal (.code yX9_frozenTotal cX9_frozenTotal 1 (some .int)) 1 0 0 [.ref (ad g 0)] m (rI (fun v mA => v = m.1 (LA 0) 4 ∧ RD m mA)) noX := by
  refine (c_X9_frozenTotal hG ).imp (fun r m' hq => ?_) (fun _ _ h => h)
  obtain ⟨v, e, hq⟩ := hq
  refine ⟨v, e, ?_⟩
  obtain ⟨hv, hm⟩ := hq
  exact ⟨hv, hm ▸ RD.refl _⟩
theorem n_frozenTotal {g : xG} (hG : GK g) {K : Nat} {m mA : Mem} (hJ : JA K m) (hw : RD m mA) : CC g yX10_frozenTotal (.code yX10_frozenTotal cX10_frozenTotal 1 (some .int)) 1 0 0 [.ref (ad g 363)] mA (rI (fun b m2 => b = m.1 (LA 0) 4 ∧ JA (K + 400) m2)) noX := by
  refine (c_X10_frozenTotal hG (hJ.rmr hw)).imp (fun r m' hq => ?_) (fun _ _ h => h)
  obtain ⟨b, e, hb, hm⟩ := hq
  exact ⟨b, e, hb, (hJ.read (hw.trans (hm ▸ RD.thr _ _))).mono (by omega)⟩
theorem w_thawedTotal {g : xG} (hG : GK g) {K : Nat} {m : Mem} (hJ : JA K m) : CC g yX9_thawedTotal (.code yX9_thawedTotal cX9_thawedTotal 1 (some .int)) 1 0 0 [.ref (ad g 0)] m (rI (fun v mA => v = m.1 (LA 0) 5 ∧ RD m mA)) noX := by
  refine (c_X9_thawedTotal hG ).imp (fun r m' hq => ?_) (fun _ _ h => h)
  obtain ⟨v, e, hq⟩ := hq
  refine ⟨v, e, ?_⟩
  obtain ⟨hv, hm⟩ := hq
  exact ⟨hv, hm ▸ RD.refl _⟩
theorem n_thawedTotal {g : xG} (hG : GK g) {K : Nat} {m mA : Mem} (hJ : JA K m) (hw : RD m mA) : CC g yX10_thawedTotal (.code yX10_thawedTotal cX10_thawedTotal 1 (some .int)) 1 0 0 [.ref (ad g 363)] mA (rI (fun b m2 => b = m.1 (LA 0) 5 ∧ JA (K + 400) m2)) noX := by
  refine (c_X10_thawedTotal hG (hJ.rmr hw)).imp (fun r m' hq => ?_) (fun _ _ h => h)
  obtain ⟨b, e, hb, hm⟩ := hq
  exact ⟨b, e, hb, (hJ.read (hw.trans (hm ▸ RD.thr _ _))).mono (by omega)⟩
theorem w_isInWindow {g : xG} (hG : GK g) {K : Nat} {m : Mem} (hJ : JA K m) {x : Int32} : CC g yX9_isInWindow (.code yX9_isInWindow cX9_isInWindow 2 (some .boolean)) 3 0 0 [.ref (ad g 0), .int x] m (rI (fun v mA => v = (if meetB (m.1 (LA 0 + 3)) (m.1 (LA 0 + 4)) x x (nWn m 0) = true then 1 else 0) ∧ RD m mA)) noX := by
  refine (c_X9_isInWindow hG hJ.ci).imp (fun r m' hq => ?_) (fun _ _ h => h)
  obtain ⟨v, e, hq⟩ := hq
  refine ⟨v, e, ?_⟩
  obtain ⟨hv, hm⟩ := hq
  exact ⟨hv, hm ▸ RD.refl _⟩
theorem n_isInWindow {g : xG} (hG : GK g) {K : Nat} {m mA : Mem} (hJ : JA K m) {x : Int32} (hw : RD m mA) : CC g yX10_isInWindow (.code yX10_isInWindow cX10_isInWindow 2 (some .boolean)) 3 0 0 [.ref (ad g 363), .int x] mA (rI (fun b m2 => b = (if meetB (m.1 (LA 0 + 3)) (m.1 (LA 0 + 4)) x x (nWn m 0) = true then 1 else 0) ∧ JA (K + 400) m2)) noX := by
  refine (c_X10_isInWindow hG (hJ.rmr hw)).imp (fun r m' hq => ?_) (fun _ _ h => h)
  obtain ⟨b, e, hb, hm⟩ := hq
  exact ⟨b, e, hb, (hJ.read (hw.trans (hm ▸ RD.thr _ _))).mono (by omega)⟩
theorem w_crackTotal {g : xG} (hG : GK g) {K : Nat} {m : Mem} (hJ : JA K m) : CC g yX9_crackTotal (.code yX9_crackTotal cX9_crackTotal 1 (some .int)) 2 0 0 [.ref (ad g 0)] m (rI (fun v mA => v = l_sum (fun j => m.1 (LK 0 j) 5) (nLk m 0) ∧ RD m mA)) noX := by
  refine (c_X9_crackTotal hG hJ.ci).imp (fun r m' hq => ?_) (fun _ _ h => h)
  obtain ⟨v, e, hq⟩ := hq
  refine ⟨v, e, ?_⟩
  obtain ⟨hv, hm⟩ := hq
  exact ⟨hv, hm ▸ RD.refl _⟩
theorem n_crackTotal {g : xG} (hG : GK g) {K : Nat} {m mA : Mem} (hJ : JA K m) (hw : RD m mA) : CC g yX10_crackTotal (.code yX10_crackTotal cX10_crackTotal 3 (some .int)) 4 0 0 [.ref (ad g 363)] mA (rI (fun b m2 => b = l_sum (fun j => m.1 (LK 0 j) 5) (nLk m 0) ∧ JA (K + 400) m2)) noX := by
  refine (c_X10_crackTotal hG (hJ.rmr hw)).imp (fun r m' hq => ?_) (fun _ _ h => h)
  obtain ⟨b, e, hb, hm⟩ := hq
  exact ⟨b, e, hb, (hJ.read (hw.trans (hm ▸ RD.thr _ _))).mono (by omega)⟩
theorem w_echoPairs {g : xG} (hG : GK g) {K : Nat} {m : Mem} (hJ : JA K m) : CC g yX9_echoPairs (.code yX9_echoPairs cX9_echoPairs 1 (some .int)) 2 0 0 [.ref (ad g 0)] m (rI (fun v mA => v = nI (pairsN (m.1 (LA 0 + 8)) (cOf m 0) (cOf m 0)) ∧ RD m mA)) noX := by
  refine (c_X9_echoPairs hG hJ.ci).imp (fun r m' hq => ?_) (fun _ _ h => h)
  obtain ⟨v, e, hq⟩ := hq
  refine ⟨v, e, ?_⟩
  obtain ⟨hv, hm⟩ := hq
  exact ⟨hv, hm ▸ RD.refl _⟩
theorem n_echoPairs {g : xG} (hG : GK g) {K : Nat} {m mA : Mem} (hJ : JA K m) (hw : RD m mA) : CC g yX10_echoPairs (.code yX10_echoPairs cX10_echoPairs 1 (some .int)) 3 0 0 [.ref (ad g 363)] mA (rI (fun b m2 => b = nI (pairsN (m.1 (LA 0 + 8)) (cOf m 0) (cOf m 0)) ∧ JA (K + 400) m2)) noX := by
  refine (c_X10_echoPairs hG (hJ.rmr hw)).imp (fun r m' hq => ?_) (fun _ _ h => h)
  obtain ⟨b, e, hb, hm⟩ := hq
  exact ⟨b, e, hb.trans (congrArg nI (ech_pairs hJ.lw.2.2.2.1 hJ.2.1.1.2 hJ.xl.2.2.2.2).1), (hJ.read (hw.trans (hm ▸ RD.thr _ _))).mono (by omega)⟩
theorem w_echoPairsByPitch {g : xG} (hG : GK g) {K : Nat} {m : Mem} (hJ : JA K m) : CC g yX9_echoPairsByPitch (.code yX9_echoPairsByPitch cX9_echoPairsByPitch 1 (some .int)) 3 0 0 [.ref (ad g 0)] m (rI (fun v mA => v = nI (pairsN (m.1 (LA 0 + 8)) (cOf m 0) (cOf m 0)) ∧ RD m mA)) noX := by
  refine (c_X9_echoPairsByPitch hG hJ.ci).imp (fun r m' hq => ?_) (fun _ _ h => h)
  obtain ⟨v, e, hq⟩ := hq
  refine ⟨v, e, ?_⟩
  obtain ⟨hv, hm⟩ := hq
  exact ⟨hv.trans (ech_pairs hJ.lw.2.2.2.1 hJ.2.1.1.2 hJ.xl.2.2.2.2).2.2, hm ▸ RD.tly _ _⟩
theorem n_echoPairsByPitch {g : xG} (hG : GK g) {K : Nat} {m mA : Mem} (hJ : JA K m) (hw : RD m mA) : CC g yX10_echoPairsByPitch (.code yX10_echoPairsByPitch cX10_echoPairsByPitch 1 (some .int)) 3 0 0 [.ref (ad g 363)] mA (rI (fun b m2 => b = nI (pairsN (m.1 (LA 0 + 8)) (cOf m 0) (cOf m 0)) ∧ JA (K + 400) m2)) noX := by
  refine (c_X10_echoPairsByPitch hG (hJ.rmr hw)).imp (fun r m' hq => ?_) (fun _ _ h => h)
  obtain ⟨b, e, hb, hm⟩ := hq
  exact ⟨b, e, hb.trans (congrArg nI (ech_pairs hJ.lw.2.2.2.1 hJ.2.1.1.2 hJ.xl.2.2.2.2).1), (hJ.read (hw.trans (hm ▸ RD.thr _ _))).mono (by omega)⟩
theorem w_pitchCount {g : xG} (hG : GK g) {K : Nat} {m : Mem} (hJ : JA K m) : CC g yX9_pitchCount (.code yX9_pitchCount cX9_pitchCount 1 (some .int)) 3 0 0 [.ref (ad g 0)] m (rI (fun v mA => v = nI (cntPos (fun p => nI (cntEq (m.1 (LA 0 + 8)) (nI p) (cOf m 0))) 141) ∧ RD m mA)) noX := by
  refine (c_X9_pitchCount hG hJ.ci).imp (fun r m' hq => ?_) (fun _ _ h => h)
  obtain ⟨v, e, hq⟩ := hq
  refine ⟨v, e, ?_⟩
  obtain ⟨hv, hm⟩ := hq
  exact ⟨hv, hm ▸ RD.tly _ _⟩
theorem n_pitchCount {g : xG} (hG : GK g) {K : Nat} {m mA : Mem} (hJ : JA K m) (hw : RD m mA) : CC g yX10_pitchCount (.code yX10_pitchCount cX10_pitchCount 3 (some .int)) 2 0 0 [.ref (ad g 363)] mA (rI (fun b m2 => b = nI (cntPos (fun p => nI (cntEq (m.1 (LA 0 + 8)) (nI p) (cOf m 0))) 141) ∧ JA (K + 400) m2)) noX := by
  refine (c_X10_pitchCount hG (hJ.rmr hw)).imp (fun r m' hq => ?_) (fun _ _ h => h)
  obtain ⟨b, e, hb, hm⟩ := hq
  exact ⟨b, e, hb.trans (congrArg nI (ech_pairs hJ.lw.2.2.2.1 hJ.2.1.1.2 hJ.xl.2.2.2.2).2.1), (hJ.read (hw.trans (hm ▸ RD.thr _ _))).mono (by omega)⟩
theorem w_isConsistent {g : xG} (hG : GK g) {K : Nat} {m : Mem} (hJ : JA K m) : CC g yX9_isConsistent (.code yX9_isConsistent cX9_isConsistent 1 (some .boolean)) 7 0 0 [.ref (ad g 0)] m (rI (fun v mA => v = 1 ∧ RD m mA)) noX := by
  refine (c_X9_isConsistent hG hJ.ci).imp (fun r m' hq => ?_) (fun _ _ h => h)
  obtain ⟨v, e, hq⟩ := hq
  refine ⟨v, e, ?_⟩
  obtain ⟨hv, hm⟩ := hq
  refine ⟨?_, hm ▸ RD.tly _ _⟩
  rcases hv with ⟨_, hv⟩ | ⟨hn, _⟩
  · exact hv
  · exact absurd (csB_ok hJ.lw hJ.xl hJ.2.1.1.2) hn
theorem n_isConsistent {g : xG} (hG : GK g) {K : Nat} {m mA : Mem} (hJ : JA K m) (hw : RD m mA) : CC g yX10_isConsistent (.code yX10_isConsistent cX10_isConsistent 1 (some .boolean)) 1 0 0 [.ref (ad g 363)] mA (rI (fun b m2 => b = 1 ∧ JA (K + 400) m2)) noX := by
  refine (c_X10_isConsistent hG ).imp (fun r m' hq => ?_) (fun _ _ h => h)
  obtain ⟨b, e, hb, hm⟩ := hq
  exact ⟨b, e, hb, (hJ.read (hw.trans (hm ▸ RD.thr _ _))).mono (by omega)⟩
