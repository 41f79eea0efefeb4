/-! the law's check of one lake -/
set_option maxRecDepth 100000 in
set_option maxHeartbeats 4000000 in
theorem c_L_isLakeRight {g : xG} (hG : GK g) {z : xE} (hE : GE g z) (hx0 : ∀ a, ex g a = none) {K : Nat} {m : Mem} (hV : IV g K m) {q : Nat} (hq : q < nLk m 0) : CC g yL_isLakeRight (.code yL_isLakeRight cL_isLakeRight 10 (some .boolean)) 10 400 24000 [.ref (ad g 0), .int (nI q)] m (rI (fun v m2 => v = 1 ∧ IV g K m2 ∧ LF m m2)) noX := by
  have hI := hV.ci
  have hX := hV.xl
  obtain ⟨n9, hSW⟩ := hV.bw
  obtain ⟨h9, -, -, -, hSN⟩ := hV.pi
  have h8 := (hI.1.ln hq).2
  have hvb := hX.1.1 q hq
  have hSB := hSN q hq
  have e0 : ex g = fun _ => none := funext hx0
  have hM : cellAt g m m.2.1 = none := hSW.none
  have hlen : (lnT (m.1 (LK 0 q + 1)) (m.1 (LK 0 q + 2)) (m.1 (LK 0 q + 3)) (nLy m 0 q)).length ≤ 9 * nLy m 0 q := lnT_len hvb _ (Nat.le_refl _)
  have hok : okL (lnT (m.1 (LK 0 q + 1)) (m.1 (LK 0 q + 2)) (m.1 (LK 0 q + 3)) (nLy m 0 q)) = true := lnT_ok hvb _ (Nat.le_refl _)
  refine CC.mk hG RL rfl (by decide +kernel) rfl (Nat.le_of_ble_eq_true rfl) (fun sz B hB hX9 => ?_)
  show V g B 0 0 _ (hp g m) sz 0 [some (.ref (ad g 0)), some (.int (nI q)), none, none, none, none, none, none, none, none] []
  refine isl_a hG hE hB hI hX hq (by omega) (by omega) (fun sz1 => ?_)
  have lp : ∀ p y : Nat, y + p = nLy m 0 q → ∀ (E : xH) (a w sz : Nat) (x8 x9 : Option Value), TS g E m a w (lnT (m.1 (LK 0 q + 1)) (m.1 (LK 0 q + 2)) (m.1 (LK 0 q + 3)) y) → V g B (8 + 23 * y) (48 + 1566 * y) (QM g B 400 24000 (rI (fun v m2 => v = 1 ∧ IV g K m2 ∧ LF m m2)) noX) (hp (gx g E 0) m) sz 84 [some (.ref (ad g 0)), some (.int (nI q)), some (.int (nI (nLy m 0 q))), some (.int (l_sum (m.1 (LK 0 q + 1)) y)), some (.int (l_sum (m.1 (LK 0 q + 2)) y)), some (.ref a), some (.int 1), some (.int (nI y)), x8, x9] [] := by
    refine loop_dn (fun p ih y hyp E a w sz x8 x9 hTS => ?_)
    refine V.iload (pc := 84) hB dL_isLakeRight_84 rfl ?_
    refine V.iload_n (pc := 86) hB dL_isLakeRight_86 rfl ?_
    refine V.icmp_ge (pc := 87) (tgt := 297) hB dL_isLakeRight_87 (by decide) (fun c_87 => ?_) (fun c_87 => ?_)
    · have hle := (nI_leI (by omega) (by omega)).mp c_87
      obtain rfl : y = nLy m 0 q := by omega
      refine V.toG (E := E) (b := 0) (isl_d (g := gx g E 0) hG hE hB.gx hI hX hq (swGx hSW hTS.nx) (fun m2 hm2 => (hTS.mem hm2).sx) (by omega) (by omega) (fun m2 sz hLT hLF => ?_))
      have hTS2 := hTS.mem (m2 := m2) hLT.1.nx
      refine isl_e (g := gx g E 0) hG hE hB.gx hLT hok (by omega) hTS2.sx (by omega) (by omega) (fun sz => V.ug ?_)
      refine V.sub (h' := hp g m2) (fun q9 e9 he9 => hp_mono (E := fun _ => none) (c := 0) (fun _ _ h => by cases h) q9 e9 (by rw [← e0]; exact he9)) (fun _ _ h => h) ?_
      refine V.iload (pc := 460) hB dL_isLakeRight_460 rfl ?_
      refine V.retI (pc := 462) hB dL_isLakeRight_462 rfl (rfl) (by omega) (by omega) ?_
      have hs := hLT.1
      exact ⟨rfl, hV.lf hLF ⟨_, hs.1, hs.2.1, hs.2.2.1, hs.2.2.2.1, hs.2.2.2.2.1, hx0 _⟩, hLF⟩
    · have hy : y < nLy m 0 q := Nat.not_le.mp (fun z9 => c_87 ((nI_leI (by omega) (by omega)).mpr z9))
      refine V.toG (E := E) (b := 0) (isl_b (g := gx g E 0) hG hE hB.gx hI hX hq hSB hy (by omega) (by omega) (fun sz => V.ug ?_))
      refine isl_c hG hE hB hI hX hq hM hSB hy hTS (by omega) (by omega) (fun E2 a2 w2 sz hTS2 => ?_)
      exact V.wid (by omega) (by omega) (ih (nLy m 0 q - y - 1) (by omega) (y + 1) (by omega) E2 a2 w2 sz _ _ hTS2)
  refine V.eqh (show hp g m = hp (gx g (fun _ => none) 0) m by rw [← e0]; rfl) ?_
  refine V.iconst (pc := 81) (v := 0) hB dL_isLakeRight_81 rfl ?_
  refine V.istore (pc := 82) hB dL_isLakeRight_82 (by decide) rfl ?_
  exact V.wid (by omega) (by omega) (lp (nLy m 0 q) 0 (by omega) _ _ _ _ _ _ ⟨(fun _ _ h => by cases h), GE.sx (i := 0) hE (by decide)⟩)
