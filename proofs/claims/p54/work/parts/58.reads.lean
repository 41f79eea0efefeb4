/-! reads that don't throw -/
theorem in_nI {q n : Nat} (hq : q < n) (hn : n ≤ 1000000) : 0 ≤ nI q ∧ nI q < nI n := ⟨(nI_leI (a := 0) (by decide) (by omega)).mpr (Nat.zero_le _), (nI_ltI (by omega) (by omega)).mpr hq⟩
theorem out_nI {n : Nat} (hn : n ≤ 1000000) : ¬ (0 ≤ nI n ∧ nI n < nI n) := fun z => absurd ((nI_ltI (by omega) (by omega)).mp z.2) (Nat.lt_irrefl _)
theorem out_m1 {n : Nat} : ¬ ((0 : Int32) ≤ -1 ∧ -1 < nI n) := fun z => absurd z.1 (by decide)
theorem fE45 {E : String} (h : faultE 45 = some E) : False := by
  have h2 : (none : Option String) = some E := h
  cases h2
section RDS
variable {g : xG} {m : Mem} {q y : Nat}
theorem r_wFirst (hG : GK g) (hI : CI m) (hq : q < nWn m 0) : CC g yX9_windowFirst (.code yX9_windowFirst cX9_windowFirst 2 (some .int)) 3 1 6 [.ref (ad g 0), .int (nI q)] m (rI (fun v m2 => v = m.1 (LA 0 + 3) q ∧ m2 = m)) noX := by
  have h6 := hI.1.wr.2
  have hf : openF m 0 (nI q) = 45 := if_pos (in_nI hq (by omega))
  refine (c_X9_windowFirst hG hI).imp (fun r m' h => ?_) (fun E m' h => by rw [hf] at h; exact fE45 h.1)
  obtain ⟨v, e, -, h1, h2⟩ := h
  rw [nI_clamp (n := q) (by omega)] at h1
  exact ⟨v, e, h1, h2⟩
theorem r_wLast (hG : GK g) (hI : CI m) (hq : q < nWn m 0) : CC g yX9_windowLast (.code yX9_windowLast cX9_windowLast 2 (some .int)) 3 1 6 [.ref (ad g 0), .int (nI q)] m (rI (fun v m2 => v = m.1 (LA 0 + 4) q ∧ m2 = m)) noX := by
  have h6 := hI.1.wr.2
  have hf : openF m 0 (nI q) = 45 := if_pos (in_nI hq (by omega))
  refine (c_X9_windowLast hG hI).imp (fun r m' h => ?_) (fun E m' h => by rw [hf] at h; exact fE45 h.1)
  obtain ⟨v, e, -, h1, h2⟩ := h
  rw [nI_clamp (n := q) (by omega)] at h1
  exact ⟨v, e, h1, h2⟩
theorem r_depth (hG : GK g) (hI : CI m) (hq : q < nLk m 0) : CC g yX9_depth (.code yX9_depth cX9_depth 2 (some .int)) 3 1 6 [.ref (ad g 0), .int (nI q)] m (rI (fun v m2 => v = m.1 (LK 0 q) 4 ∧ m2 = m)) noX := by
  have h5 := hI.1.nl5
  refine (c_X9_depth hG hI).imp (fun r m' h => ?_) (fun E m' h => h.2.1 (in_nI hq (by omega)))
  obtain ⟨v, e, -, h1, h2⟩ := h
  rw [nI_clamp (n := q) (by omega)] at h1
  exact ⟨v, e, h1, h2⟩
theorem r_layers (hG : GK g) (hI : CI m) (hq : q < nLk m 0) : CC g yX9_layerCount (.code yX9_layerCount cX9_layerCount 2 (some .int)) 3 1 6 [.ref (ad g 0), .int (nI q)] m (rI (fun v m2 => v = nI (nLy m 0 q) ∧ m2 = m)) noX := by
  have h5 := hI.1.nl5
  refine (c_X9_layerCount hG hI).imp (fun r m' h => ?_) (fun E m' h => h.2.1 (in_nI hq (by omega)))
  obtain ⟨v, e, -, h1, h2⟩ := h
  rw [nI_clamp (n := q) (by omega), (hI.1.ln hq).1] at h1
  exact ⟨v, e, h1, h2⟩
theorem r_cracks (hG : GK g) (hI : CI m) (hq : q < nLk m 0) : CC g yX9_cracksOf (.code yX9_cracksOf cX9_cracksOf 2 (some .int)) 3 1 6 [.ref (ad g 0), .int (nI q)] m (rI (fun v m2 => v = m.1 (LK 0 q) 5 ∧ m2 = m)) noX := by
  have h5 := hI.1.nl5
  refine (c_X9_cracksOf hG hI).imp (fun r m' h => ?_) (fun E m' h => h.2.1 (in_nI hq (by omega)))
  obtain ⟨v, e, -, h1, h2⟩ := h
  rw [nI_clamp (n := q) (by omega)] at h1
  exact ⟨v, e, h1, h2⟩
theorem r_ice (hG : GK g) (hI : CI m) (hq : q < nLk m 0) : CC g yX9_iceThickness (.code yX9_iceThickness cX9_iceThickness 2 (some .int)) 6 1 6 [.ref (ad g 0), .int (nI q)] m (rI (fun v m2 => v = iceV m 0 q ∧ m2 = m)) noX := by
  have h5 := hI.1.nl5
  refine (c_X9_iceThickness hG hI).imp (fun r m' h => ?_) (fun E m' h => h.2.1 (in_nI hq (by omega)))
  obtain ⟨v, e, -, h1, h2⟩ := h
  rw [nI_clamp (n := q) (by omega)] at h1
  exact ⟨v, e, h1, h2⟩
theorem r_iceH (hG : GK g) (hI : CI m) (hq : q < nLk m 0) : CC g yX9_iceThicknessByHalves (.code yX9_iceThicknessByHalves cX9_iceThicknessByHalves 2 (some .int)) 6 1 6 [.ref (ad g 0), .int (nI q)] m (rI (fun v m2 => v = iceV m 0 q ∧ m2 = m)) noX := by
  have h5 := hI.1.nl5
  refine (c_X9_iceThicknessByHalves hG hI).imp (fun r m' h => ?_) (fun E m' h => h.2.1 (in_nI hq (by omega)))
  obtain ⟨v, e, -, h1, h2⟩ := h
  rw [nI_clamp (n := q) (by omega)] at h1
  exact ⟨v, e, h1, h2⟩
theorem r_thick (hG : GK g) (hI : CI m) (hq : q < nLk m 0) (hy : y < nLy m 0 q) : CC g yX9_thickness (.code yX9_thickness cX9_thickness 3 (some .int)) 4 2 12 [.ref (ad g 0), .int (nI q), .int (nI y)] m (rI (fun v m2 => v = m.1 (LK 0 q + 1) y ∧ m2 = m)) noX := by
  have h5 := hI.1.nl5
  have h8 := (hI.1.ln hq).2
  refine (c_X9_thickness hG hI).imp (fun r m' h => ?_) (fun E m' h => h.2.1 ⟨in_nI hq (by omega), by rw [nI_clamp (n := q) (by omega)]; exact in_nI hy (by omega)⟩)
  obtain ⟨v, e, -, h1, h2⟩ := h
  rw [nI_clamp (n := q) (by omega), nI_clamp (n := y) (by omega)] at h1
  exact ⟨v, e, h1, h2⟩
theorem r_temp (hG : GK g) (hI : CI m) (hq : q < nLk m 0) (hy : y < nLy m 0 q) : CC g yX9_temperature (.code yX9_temperature cX9_temperature 3 (some .int)) 4 2 12 [.ref (ad g 0), .int (nI q), .int (nI y)] m (rI (fun v m2 => v = m.1 (LK 0 q + 2) y ∧ m2 = m)) noX := by
  have h5 := hI.1.nl5
  have h8 := (hI.1.ln hq).2
  refine (c_X9_temperature hG hI).imp (fun r m' h => ?_) (fun E m' h => h.2.1 ⟨in_nI hq (by omega), by rw [nI_clamp (n := q) (by omega)]; exact in_nI hy (by omega)⟩)
  obtain ⟨v, e, -, h1, h2⟩ := h
  rw [nI_clamp (n := q) (by omega), nI_clamp (n := y) (by omega)] at h1
  exact ⟨v, e, h1, h2⟩
theorem r_strain (hG : GK g) (hI : CI m) (hq : q < nLk m 0) (hy : y < nLy m 0 q) : CC g yX9_strain (.code yX9_strain cX9_strain 3 (some .int)) 4 2 12 [.ref (ad g 0), .int (nI q), .int (nI y)] m (rI (fun v m2 => v = m.1 (LK 0 q + 3) y ∧ m2 = m)) noX := by
  have h5 := hI.1.nl5
  have h8 := (hI.1.ln hq).2
  refine (c_X9_strain hG hI).imp (fun r m' h => ?_) (fun E m' h => h.2.1 ⟨in_nI hq (by omega), by rw [nI_clamp (n := q) (by omega)]; exact in_nI hy (by omega)⟩)
  obtain ⟨v, e, -, h1, h2⟩ := h
  rw [nI_clamp (n := q) (by omega), nI_clamp (n := y) (by omega)] at h1
  exact ⟨v, e, h1, h2⟩
theorem r_pKind (hG : GK g) (hI : CI m) (hq : q < cOf m 0) : CC g yX9_pealKind (.code yX9_pealKind cX9_pealKind 2 (some .char)) 4 1 6 [.ref (ad g 0), .int (nI q)] m (rI (fun v m2 => v = m.1 (LA 0 + 6) (psl m 0 q) ∧ m2 = m)) noX := by
  have h16 := hI.1.pr.2.2.2
  refine (c_X9_pealKind hG hI).imp (fun r m' h => ?_) (fun E m' h => h.2.1 (in_nI hq (by omega)))
  obtain ⟨v, e, -, h1, h2⟩ := h
  rw [nI_clamp (n := q) (by omega)] at h1
  exact ⟨v, e, h1, h2⟩
theorem r_pLake (hG : GK g) (hI : CI m) (hq : q < cOf m 0) : CC g yX9_pealLake (.code yX9_pealLake cX9_pealLake 2 (some .int)) 4 1 6 [.ref (ad g 0), .int (nI q)] m (rI (fun v m2 => v = m.1 (LA 0 + 7) (psl m 0 q) ∧ m2 = m)) noX := by
  have h16 := hI.1.pr.2.2.2
  refine (c_X9_pealLake hG hI).imp (fun r m' h => ?_) (fun E m' h => h.2.1 (in_nI hq (by omega)))
  obtain ⟨v, e, -, h1, h2⟩ := h
  rw [nI_clamp (n := q) (by omega)] at h1
  exact ⟨v, e, h1, h2⟩
theorem r_pPitch (hG : GK g) (hI : CI m) (hq : q < cOf m 0) : CC g yX9_pealPitch (.code yX9_pealPitch cX9_pealPitch 2 (some .int)) 4 1 6 [.ref (ad g 0), .int (nI q)] m (rI (fun v m2 => v = m.1 (LA 0 + 8) (psl m 0 q) ∧ m2 = m)) noX := by
  have h16 := hI.1.pr.2.2.2
  refine (c_X9_pealPitch hG hI).imp (fun r m' h => ?_) (fun E m' h => h.2.1 (in_nI hq (by omega)))
  obtain ⟨v, e, -, h1, h2⟩ := h
  rw [nI_clamp (n := q) (by omega)] at h1
  exact ⟨v, e, h1, h2⟩
theorem r_pHour (hG : GK g) (hI : CI m) (hq : q < cOf m 0) : CC g yX9_pealHour (.code yX9_pealHour cX9_pealHour 2 (some .int)) 4 1 6 [.ref (ad g 0), .int (nI q)] m (rI (fun v m2 => v = m.1 (LA 0 + 9) (psl m 0 q) ∧ m2 = m)) noX := by
  have h16 := hI.1.pr.2.2.2
  refine (c_X9_pealHour hG hI).imp (fun r m' h => ?_) (fun E m' h => h.2.1 (in_nI hq (by omega)))
  obtain ⟨v, e, -, h1, h2⟩ := h
  rw [nI_clamp (n := q) (by omega)] at h1
  exact ⟨v, e, h1, h2⟩
theorem r_layerAt (hG : GK g) (hI : CI m) {x : Int32} (hq : q < nLk m 0) (hv : lcV (m.1 (LK 0 q + 1)) x (nLy m 0 q) = nI y) (hy : y < 1000) : CC g yX9_layerAt (.code yX9_layerAt cX9_layerAt 4 (some .int)) 3 2 12 [.ref (ad g 0), .int (nI q), .int x] m (rI (fun v m2 => v = nI y ∧ m2 = m)) noX := by
  have h5 := hI.1.nl5
  refine (c_X9_layerAt hG hI).imp (fun r m' h => ?_) (fun E m' h => ?_)
  · obtain ⟨v, e, -, h1, -, h2⟩ := h
    rw [nI_clamp (n := q) (by omega), hv] at h1
    exact ⟨v, e, h1, h2⟩
  · rcases h.1 with ⟨-, h1⟩ | ⟨-, -, h1⟩
    · exact h1 (in_nI hq (by omega))
    · rw [nI_clamp (n := q) (by omega), hv] at h1
      exact absurd (show nI y < 0 by rw [h1]; decide) (nI_lt0 (by omega))
end RDS
