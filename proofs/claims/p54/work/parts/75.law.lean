/-! the invariant at the start; the law's own walk -/
theorem m0_z {k : Nat} (h0 : k ≠ 0) (hl : isLk k = false) : m00.1 k = fun _ => 0 := by
  show m0c k = _
  unfold m0c
  rw [if_neg h0, hl, if_neg Bool.false_ne_true]
theorem z91 : m00.1 91 = fun _ => 0 := m0_z (by decide) (by decide)
theorem zLA : m00.1 (LA 0) = fun _ => 0 := m0_z (by decide) (by decide)
theorem zLAo {o : Nat} (ho : o < 10) : m00.1 (LA 0 + o) = fun _ => 0 := by
  rcases (by omega : o = 0 ∨ o = 1 ∨ o = 2 ∨ o = 3 ∨ o = 4 ∨ o = 5 ∨ o = 6 ∨ o = 7 ∨ o = 8 ∨ o = 9) with rfl | rfl | rfl | rfl | rfl | rfl | rfl | rfl | rfl | rfl <;> exact m0_z (by decide) (by decide)
theorem n0L : nLk m00 0 = 0 := by unfold nLk; rw [zLA]; rfl
theorem n0W : nWn m00 0 = 0 := by unfold nWn; rw [zLAo (by decide)]; rfl
theorem n0P : wOf m00 0 = 0 ∧ cOf m00 0 = 0 := by unfold wOf cOf; rw [zLAo (by decide)]; exact ⟨rfl, rfl⟩
theorem lwS0 : LW m00 0 := by
  refine ⟨⟨by rw [n0L, zLA]; rfl, by rw [n0L]; omega⟩, fun j hj => by rw [n0L] at hj; omega, ⟨by rw [n0W, zLAo (by decide)]; rfl, by rw [n0W]; omega⟩, ⟨by rw [n0P.1, zLAo (by decide)]; rfl, by rw [n0P.1]; omega, by rw [n0P.2, zLAo (by decide)]; rfl, by rw [n0P.2]; omega⟩, fun y _ => by rw [zLAo (by decide)]; rfl⟩
theorem hcS0 : hc m00 = 0 ∧ hw m00 = 0 := by unfold hc hw; rw [z91]; exact ⟨rfl, rfl⟩
theorem ciS0 : CI m00 := by
  refine ⟨lwS0, ⟨by rw [hcS0.2, z91]; rfl, by rw [hcS0.2]; omega, by rw [hcS0.1, z91]; rfl, by rw [hcS0.1]; omega⟩, fun q hq => by rw [hcS0.1] at hq; omega, Or.inl rfl⟩
theorem xlS0 : XL m00 0 := by
  refine ⟨⟨fun j hj => by rw [n0L] at hj; omega, by rw [zLA]; decide⟩, ⟨fun w hw => by rw [n0W] at hw; omega, fun a b _ hb => by rw [n0W] at hb; omega⟩, ?_, fun j hj => by rw [n0L] at hj; omega, fun y _ => by rw [zLAo (by decide)]; exact (show (0 : Int32) ≤ 0 ∧ (0 : Int32) ≤ 140 by decide)⟩
  rw [n0L, zLA]
  rfl

theorem ivS0 {g : xG} (hx0 : ∀ a, ex g a = none) : IV g 0 m00 := by
  have z360 : m00.1 360 = fun _ => 0 := m0_z (by decide) (by decide)
  have z361 : m00.1 361 = fun _ => 0 := m0_z (by decide) (by decide)
  refine ⟨ciS0, xlS0, ⟨fun j hj => by rw [n0L] at hj; omega, fun _ => by rw [n0P.1, n0P.2]⟩, ⟨0, Nat.le_refl _, by rw [zLA]; rfl, ⟨fun _ => 0, fun q hq => by rw [n0P.2] at hq; omega, fun q hq => by rw [n0P.2] at hq; omega, fun q hq => by rw [n0P.2] at hq; omega⟩, fun j hj => by rw [n0L] at hj; omega⟩, ⟨0, by rw [z360]; rfl, Nat.zero_le _, by decide, Or.inl rfl, fun j _ => by rw [z361]; rfl, hx0 _⟩, fun a b _ hb => by rw [n0W] at hb; omega⟩
theorem ix_210 : ∀ j, j < 12 → (210 : Int32) + 6 * nI j = nI (210 + 6 * j) := by decide
theorem ix_300 : ∀ j, j < 12 → (300 : Int32) + nI j = nI (300 + j) := by decide
theorem ix_320 : ∀ j, j < 12 → (320 : Int32) + nI j = nI (320 + j) := by decide

set_option maxRecDepth 100000 in
set_option maxHeartbeats 4000000 in
theorem law_go {g : xG} (hG : GK g) {z : xE} (hE : GE g z) (hx0 : ∀ a, ex g a = none) {B : BT} {Q : State → Prop} (hB : Bd g B code 4 RL ret 51 600390 7290160) {b L : Nat} {xs : Nat → Int32} (hS : va_T .int b L (fun j => .int (xs j)) (xFree g) g.1 g.1.heap) (hL : L ≤ 260) (ke : ∀ (k n sz : Nat) (h : xH) (ls : List (Option Value)), k ≤ 600390 → n ≤ 7290160 → V g B k n Q h sz 100 ls []) : V g B 0 0 Q (fun _ => none) g.1.heap.size 0 [some (.ref b), none, none, none] [] := by
  have lp : ∀ p j : Nat, j + p = 12 → ∀ (M : Mem) (sz : Nat) (x3 : Option Value), IV g (25600 + 400 * j) M → V g B (427 + 3781 * j) (3444 + 131086 * j) Q (hp g M) sz 15 [some (.ref b), some (.ref (ad g 0)), some (.int (nI j)), x3] [] := by
    refine loop_dn (fun p ih j hj M sz x3 hV9 => ?_)
    refine V.iload_n (pc := 15) hB dL_law_15 rfl ?_
    refine V.bipush (pc := 16) (v := 12) hB dL_law_16 rfl ?_
    refine V.icmp_ge (pc := 18) (tgt := 100) hB dL_law_18 (by decide) (fun c_18 => ?_) (fun c_18 => ?_)
    · exact ke _ _ _ _ _ (by omega) (by omega)
    · have hlt : j < 12 := Nat.not_le.mp (fun z9 => c_18 ((nI_leI (a := 12) (by decide) (by omega)).mpr z9))
      refine V.aload_n (pc := 21) hB dL_law_21 rfl ?_
      refine V.aload_n (pc := 22) hB dL_law_22 rfl ?_
      refine V.sipush (pc := 23) (v := 210) hB dL_law_23 rfl ?_
      refine V.bipush (pc := 26) (v := 6) hB dL_law_26 rfl ?_
      refine V.iload_n (pc := 28) hB dL_law_28 rfl ?_
      refine V.imul (pc := 29) hB dL_law_29 ?_
      refine V.iadd (pc := 30) hB dL_law_30 ?_
      rw [ix_210 j hlt]
      refine V.cs (pc := 31) hB cw_L_any wm_L_254 wst_L_any dL_law_31 (c_L_any hG hS hL (q := 210 + 6 * j) (by omega) hV9) (by omega) (by decide) rfl (by exact Nat.le_of_ble_eq_true rfl) (by omega) (by omega) kN (kI (fun v_31 m_31 sz h_31 => ?_)) rfl
      have hV8 := h_31
      refine V.istore_n (pc := 34) hB dL_law_34 (by decide) rfl ?_
      refine V.aload_n (pc := 35) hB dL_law_35 rfl ?_
      refine V.cs (pc := 36) hB cw_L_areLakesRight wm_L_258 wst_L_areLakesRight dL_law_36 (c_L_areLakesRight hG hE hx0 hV8 (by omega)) (by omega) (by decide) rfl (by exact Nat.le_of_ble_eq_true rfl) (by omega) (by omega) kN (kI (fun v_36 m_36 sz h_36 => ?_)) rfl
      obtain ⟨rfl, hV7⟩ := h_36
      refine V.if_eq (pc := 39) (tgt := 92) hB dL_law_39 (by decide) (fun c_39 => ?_) (fun c_39 => ?_)
      · exact absurd c_39 (by decide)
      · refine V.aload_n (pc := 42) hB dL_law_42 rfl ?_
        refine V.cs (pc := 43) hB cw_L_arePealsRight wm_L_262 wst_L_arePealsRight dL_law_43 (c_L_arePealsRight hG hV7 (by omega)) (by omega) (by decide) rfl (by exact Nat.le_of_ble_eq_true rfl) (by omega) (by omega) kN (kI (fun v_43 m_43 sz h_43 => ?_)) rfl
        obtain ⟨rfl, hT6⟩ := h_43
        have hV6 := hT6.iv hV7
        refine V.if_eq (pc := 46) (tgt := 92) hB dL_law_46 (by decide) (fun c_46 => ?_) (fun c_46 => ?_)
        · exact absurd c_46 (by decide)
        · refine V.aload_n (pc := 49) hB dL_law_49 rfl ?_
          refine V.aload_n (pc := 50) hB dL_law_50 rfl ?_
          refine V.cv (pc := 51) hB cw_X9_hour wm_L_115 wi_X9_hour ws_X9_hour dL_law_51 (c_X9_hour hG) (hp_at (ca_Bells _)) fk_Bells rfl (by omega) (by decide) rfl (by exact Nat.le_of_ble_eq_true rfl) (by omega) (by omega) kN (kI (fun v_51 m_51 sz h_51 => ?_)) rfl
          obtain ⟨rfl, hm_51⟩ := h_51
          rw [hm_51]
          refine V.aload_n (pc := 54) hB dL_law_54 rfl ?_
          refine V.sipush (pc := 55) (v := 300) hB dL_law_55 rfl ?_
          refine V.iload_n (pc := 58) hB dL_law_58 rfl ?_
          refine V.iadd (pc := 59) hB dL_law_59 ?_
          rw [ix_300 j hlt]
          refine V.bipush (pc := 60) (v := 40) hB dL_law_60 rfl ?_
          refine V.cs (pc := 62) hB cw_L_pick wm_L_100 wst_L_pick dL_law_62 (c_L_pick hG hS hL (q := 300 + j) (n := 40) (by omega) (by omega) (by omega)) (by omega) (by decide) rfl (by exact Nat.le_of_ble_eq_true rfl) (by omega) (by omega) kN (kI (fun v_62 m_62 sz h_62 => ?_)) rfl
          obtain ⟨⟨r_62, hr_62, rfl⟩, hm_62⟩ := h_62
          rw [hm_62]
          refine V.iadd (pc := 65) hB dL_law_65 ?_
          refine V.bipush (pc := 66) (v := 10) hB dL_law_66 rfl ?_
          refine V.isub (pc := 68) hB dL_law_68 ?_
          refine V.cs (pc := 69) hB cw_L_areWindowsRight wm_L_265 wst_L_areWindowsRight dL_law_69 (c_L_areWindowsRight hG hV6) (by omega) (by decide) rfl (by exact Nat.le_of_ble_eq_true rfl) (by omega) (by omega) kN (kI (fun v_69 m_69 sz h_69 => ?_)) rfl
          obtain ⟨rfl, hm_69⟩ := h_69
          rw [hm_69]
          refine V.if_eq (pc := 72) (tgt := 92) hB dL_law_72 (by decide) (fun c_72 => ?_) (fun c_72 => ?_)
          · exact absurd c_72 (by decide)
          · refine V.aload_n (pc := 75) hB dL_law_75 rfl ?_
            refine V.aload_n (pc := 76) hB dL_law_76 rfl ?_
            refine V.sipush (pc := 77) (v := 320) hB dL_law_77 rfl ?_
            refine V.iload_n (pc := 80) hB dL_law_80 rfl ?_
            refine V.iadd (pc := 81) hB dL_law_81 ?_
            rw [ix_320 j hlt]
            refine V.iconst (pc := 82) (v := 5) hB dL_law_82 rfl ?_
            refine V.cs (pc := 83) hB cw_L_pick wm_L_100 wst_L_pick dL_law_83 (c_L_pick hG hS hL (q := 320 + j) (n := 5) (by omega) (by omega) (by omega)) (by omega) (by decide) rfl (by exact Nat.le_of_ble_eq_true rfl) (by omega) (by omega) kN (kI (fun v_83 m_83 sz h_83 => ?_)) rfl
            obtain ⟨⟨r_83, hr_83, rfl⟩, hm_83⟩ := h_83
            rw [hm_83]
            refine V.cs (pc := 86) hB cw_L_areHoursRight wm_L_268 wst_L_areHoursRight dL_law_86 (c_L_areHoursRight hG hV6 hr_83) (by omega) (by decide) rfl (by exact Nat.le_of_ble_eq_true rfl) (by omega) (by omega) kN (kI (fun v_86 m_86 sz h_86 => ?_)) rfl
            obtain ⟨rfl, hV5⟩ := h_86
            refine V.if_ne (pc := 89) (tgt := 94) hB dL_law_89 (by decide) (fun c_89 => ?_) (fun c_89 => ?_)
            · refine V.iinc (pc := 94) (v := nI (j + 1)) hB dL_law_94 rfl (nI_1 _) (by decide) rfl ?_
              refine V.goto (pc := 97) (tgt := 15) hB dL_law_97 (by decide) ?_
              exact V.wid (by omega) (by omega) (ih (12 - j - 1) (by omega) (j + 1) (by omega) _ _ _ (hV5.mono (by omega)))
            · exact absurd c_89 (by decide)
  refine V.newo (pc := 0) hB fk_Bells wc_L_16 wib_X9 wn_X9 (fs := [.null, .null, .null, .int 0, .null, .null, .int 0, .int 0, .int 0, .null, .null]) (fun j hj => by
    match j, hj with
    | 0, _ => rfl
    | 1, _ => rfl
    | 2, _ => rfl
    | 3, _ => rfl
    | 4, _ => rfl
    | 5, _ => rfl
    | 6, _ => rfl
    | 7, _ => rfl
    | 8, _ => rfl
    | 9, _ => rfl
    | 10, _ => rfl) (by omega) (by omega) dL_law_0 ?_
  refine V.dup (pc := 3) hB dL_law_3 rfl ?_
  refine V.eqh (px_1 _ _ _) ?_
  refine V.callI (pc := 4) (av := []) hB cw_X9_init wm_L_249 rfl wi_X9_init dL_law_4 (d' := 8) (by omega) (by decide) (ct_X9_init hG hE) noH_no rfl (by exact Nat.le_of_ble_eq_true rfl) (by omega) (by omega) (fun v9 h9 sz9 hq9 => ?_) rfl
  obtain ⟨rfl, rfl, rfl⟩ := hq9
  refine V.eqh (show px (fun _ => none) g.1.heap.size 363 (bellsP g g.1.heap.size) = hp g m00 from start_pic g hx0) ?_
  show V g B _ _ Q (hp g m00) _ 7 [some (.ref b), none, none, none] [.ref (ad g 0)]
  refine V.astore_n (pc := 7) hB dL_law_7 (by decide) rfl ?_
  refine V.aload_n (pc := 8) hB dL_law_8 rfl ?_
  refine V.aload_n (pc := 9) hB dL_law_9 rfl ?_
  refine V.cs (pc := 10) hB cw_L_lay wm_L_250 wst_L_lay dL_law_10 (c_L_lay hG hS hL (ivS0 hx0)) (by omega) (by decide) rfl (by exact Nat.le_of_ble_eq_true rfl) (by omega) (by omega) kN (kV (fun m_10 sz h_10 => ?_)) rfl
  have hV9 := h_10
  refine V.iconst (pc := 13) (v := 0) hB dL_law_13 rfl ?_
  refine V.istore_n (pc := 14) hB dL_law_14 (by decide) rfl ?_
  exact V.wid (by omega) (by omega) (lp 12 0 (by omega) _ _ _ (hV9.mono (by omega)))

