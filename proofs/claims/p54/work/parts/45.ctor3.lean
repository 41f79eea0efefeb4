/-! the class's constructor, the reference's -/
def sbP (g : xG) (a k : Nat) : va_E := sbE g a k
def bellsP (g : xG) (a k : Nat) : va_E := if k = 0 then .inr (7, [.ref (a + 1), .ref (a + 31), .ref (a + 61), .int 0, .ref (a + 91), .ref (a + 333), .int (-1), .int (-1), .int 45, .ref (a + 360), .ref (a + 362)]) else if k < 31 then landP g (a + 1) 5 (k - 1) else if k < 61 then landP g (a + 31) 5 (k - 31) else if k < 91 then landP g (a + 61) 5 (k - 61) else if k < 333 then histP g (a + 91) 8 (k - 91) else if k < 360 then ctxP g (a + 333) 12 (k - 333) else if k < 362 then sbE g (a + 360) (k - 360) else rowI g 141
set_option maxRecDepth 100000 in
set_option maxHeartbeats 1000000 in
theorem ct_X9_init {g : xG} (hG : GK g) {z : xE} (hE : GE g z) {a : Nat} {h : xH} : Ct g yX9_init (.code yX9_init cX9_init 1 none) 8 362 3049 [.ref a] (px h a 1 (fun _ => .inr (7, [.null, .null, .null, .int 0, .null, .null, .int 0, .int 0, .int 0, .null, .null]))) (a + 1) (fun r h' sz' => r = none ∧ sz' = a + 1 + 362 ∧ h' = px h a 363 (bellsP g a)) noH := by
  refine Ct.mk hG RX9 rfl (by decide +kernel) rfl (Nat.le_of_ble_eq_true rfl) (fun B hB _ hi => ?_)
  have hI := hi rfl
  show V g B 0 0 _ (px h a 1 _) (a + 1) 0 [some (.ref a)] []
  refine V.aload_n (pc := 0) hB dX9_init_0 rfl ?_
  refine V.objInit (pc := 1) hB wmo_X9 dX9_init_1 (by omega) (by exact Nat.le_of_ble_eq_true rfl) ?_
  refine V.aload_n (pc := 4) hB dX9_init_4 rfl ?_
  refine V.newo (pc := 5) hB fk_Land wc_X9_9 wib_X6 wn_X6 (fs := [.null, .int 0, .int 0, .int 0, .int 0, .int 0, .null, .null]) (fun j hj => by
      rcases (by omega : j = 0 ∨ j = 1 ∨ j = 2 ∨ j = 3 ∨ j = 4 ∨ j = 5 ∨ j = 6 ∨ j = 7) with rfl | rfl | rfl | rfl | rfl | rfl | rfl | rfl <;> rfl) (by omega) (by omega) dX9_init_5 ?_
  refine V.pic (hx_px1 _ _ _) rfl ?_
  refine V.dup (pc := 8) hB dX9_init_8 rfl ?_
  refine V.callI (pc := 9) (av := []) hB cw_X6_init wm_X9_11 rfl wi_X6_init dX9_init_9 (d' := 4) (by omega) (by decide) (ct_X6_init hG) noH_no rfl (by exact Nat.le_of_ble_eq_true rfl) (by omega) (by omega) (fun v h2 sz2 hq => ?_) rfl
  obtain ⟨rfl, rfl, rfl⟩ := hq
  refine V.pic (px_cat _ _ _ _ _ _) rfl ?_
  refine V.ctF (pc := 12) hB hI fk_Bells 0 wf_X9_12 dX9_init_12 (by decide) rfl rfl rfl (by omega) (Nat.le_of_ble_eq_true rfl) rfl rfl ?_
  refine V.aload_n (pc := 15) hB dX9_init_15 rfl ?_
  refine V.newo (pc := 16) hB fk_Land wc_X9_9 wib_X6 wn_X6 (fs := [.null, .int 0, .int 0, .int 0, .int 0, .int 0, .null, .null]) (fun j hj => by
      rcases (by omega : j = 0 ∨ j = 1 ∨ j = 2 ∨ j = 3 ∨ j = 4 ∨ j = 5 ∨ j = 6 ∨ j = 7) with rfl | rfl | rfl | rfl | rfl | rfl | rfl | rfl <;> rfl) (by omega) (by omega) dX9_init_16 ?_
  refine V.pic (hx_px1 _ _ _) rfl ?_
  refine V.dup (pc := 19) hB dX9_init_19 rfl ?_
  refine V.callI (pc := 20) (av := []) hB cw_X6_init wm_X9_11 rfl wi_X6_init dX9_init_20 (d' := 4) (by omega) (by decide) (ct_X6_init hG) noH_no rfl (by exact Nat.le_of_ble_eq_true rfl) (by omega) (by omega) (fun v h2 sz2 hq => ?_) rfl
  obtain ⟨rfl, rfl, rfl⟩ := hq
  refine V.pic (px_cat _ _ _ _ _ _) rfl ?_
  refine V.ctF (pc := 23) hB hI fk_Bells 1 wf_X9_16 dX9_init_23 (by decide) rfl rfl rfl (by omega) (Nat.le_of_ble_eq_true rfl) rfl rfl ?_
  refine V.aload_n (pc := 26) hB dX9_init_26 rfl ?_
  refine V.newo (pc := 27) hB fk_Land wc_X9_9 wib_X6 wn_X6 (fs := [.null, .int 0, .int 0, .int 0, .int 0, .int 0, .null, .null]) (fun j hj => by
      rcases (by omega : j = 0 ∨ j = 1 ∨ j = 2 ∨ j = 3 ∨ j = 4 ∨ j = 5 ∨ j = 6 ∨ j = 7) with rfl | rfl | rfl | rfl | rfl | rfl | rfl | rfl <;> rfl) (by omega) (by omega) dX9_init_27 ?_
  refine V.pic (hx_px1 _ _ _) rfl ?_
  refine V.dup (pc := 30) hB dX9_init_30 rfl ?_
  refine V.callI (pc := 31) (av := []) hB cw_X6_init wm_X9_11 rfl wi_X6_init dX9_init_31 (d' := 4) (by omega) (by decide) (ct_X6_init hG) noH_no rfl (by exact Nat.le_of_ble_eq_true rfl) (by omega) (by omega) (fun v h2 sz2 hq => ?_) rfl
  obtain ⟨rfl, rfl, rfl⟩ := hq
  refine V.pic (px_cat _ _ _ _ _ _) rfl ?_
  refine V.ctF (pc := 34) hB hI fk_Bells 2 wf_X9_19 dX9_init_34 (by decide) rfl rfl rfl (by omega) (Nat.le_of_ble_eq_true rfl) rfl rfl ?_
  refine V.aload_n (pc := 37) hB dX9_init_37 rfl ?_
  refine V.iconst (pc := 38) (v := 0) hB dX9_init_38 rfl ?_
  refine V.ctP (pc := 39) hB fk_Bells 3 wf_X9_22 dX9_init_39 (by decide) rfl rfl (by omega) (Nat.le_of_ble_eq_true rfl) rfl rfl ?_
  refine V.aload_n (pc := 42) hB dX9_init_42 rfl ?_
  refine V.newo (pc := 43) hB fk_Hist wc_X9_26 wib_X3 wn_X3 (fs := [.null, .int 0, .int 0]) (fun j hj => by
      rcases (by omega : j = 0 ∨ j = 1 ∨ j = 2) with rfl | rfl | rfl <;> rfl) (by omega) (by omega) dX9_init_43 ?_
  refine V.pic (hx_px1 _ _ _) rfl ?_
  refine V.dup (pc := 46) hB dX9_init_46 rfl ?_
  refine V.callI (pc := 47) (av := []) hB cw_X3_init wm_X9_28 rfl wi_X3_init dX9_init_47 (d' := 6) (by omega) (by decide) (ct_X3_init hG) noH_no rfl (by exact Nat.le_of_ble_eq_true rfl) (by omega) (by omega) (fun v h2 sz2 hq => ?_) rfl
  obtain ⟨rfl, rfl, rfl⟩ := hq
  refine V.pic (px_cat _ _ _ _ _ _) rfl ?_
  refine V.ctF (pc := 50) hB hI fk_Bells 4 wf_X9_29 dX9_init_50 (by decide) rfl rfl rfl (by omega) (Nat.le_of_ble_eq_true rfl) rfl rfl ?_
  refine V.aload_n (pc := 53) hB dX9_init_53 rfl ?_
  refine V.newo (pc := 54) hB fk_CText wc_X9_33 wib_X2 wn_X2 (fs := [.null, .int 0, .int 0, .null, .int 0]) (fun j hj => by
      rcases (by omega : j = 0 ∨ j = 1 ∨ j = 2 ∨ j = 3 ∨ j = 4) with rfl | rfl | rfl | rfl | rfl <;> rfl) (by omega) (by omega) dX9_init_54 ?_
  refine V.pic (hx_px1 _ _ _) rfl ?_
  refine V.dup (pc := 57) hB dX9_init_57 rfl ?_
  refine V.callI (pc := 58) (av := []) hB cw_X2_init wm_X9_35 rfl wi_X2_init dX9_init_58 (d' := 4) (by omega) (by decide) (ct_X2_init hG hE) noH_no rfl (by exact Nat.le_of_ble_eq_true rfl) (by omega) (by omega) (fun v h2 sz2 hq => ?_) rfl
  obtain ⟨rfl, rfl, rfl⟩ := hq
  refine V.pic (px_cat _ _ _ _ _ _) rfl ?_
  refine V.ctF (pc := 61) hB hI fk_Bells 5 wf_X9_36 dX9_init_61 (by decide) rfl rfl rfl (by omega) (Nat.le_of_ble_eq_true rfl) rfl rfl ?_
  refine V.aload_n (pc := 64) hB dX9_init_64 rfl ?_
  refine V.iconst (pc := 65) (v := (-1)) hB dX9_init_65 rfl ?_
  refine V.ctP (pc := 66) hB fk_Bells 6 wf_X9_40 dX9_init_66 (by decide) rfl rfl (by omega) (Nat.le_of_ble_eq_true rfl) rfl rfl ?_
  refine V.aload_n (pc := 69) hB dX9_init_69 rfl ?_
  refine V.iconst (pc := 70) (v := (-1)) hB dX9_init_70 rfl ?_
  refine V.ctP (pc := 71) hB fk_Bells 7 wf_X9_44 dX9_init_71 (by decide) rfl rfl (by omega) (Nat.le_of_ble_eq_true rfl) rfl rfl ?_
  refine V.aload_n (pc := 74) hB dX9_init_74 rfl ?_
  refine V.bipush (pc := 75) (v := 45) hB dX9_init_75 rfl ?_
  refine V.ctP (pc := 77) hB fk_Bells 8 wf_X9_47 dX9_init_77 (by decide) rfl rfl (by omega) (Nat.le_of_ble_eq_true rfl) rfl rfl ?_
  refine V.aload_n (pc := 80) hB dX9_init_80 rfl ?_
  refine V.newo (pc := 81) hB fk_SB wc_X9_51 wib_J4 wn_J4 (fs := [.null, .int 0, .int 0, .int 0]) (fun j hj => by
      rcases (by omega : j = 0 ∨ j = 1 ∨ j = 2 ∨ j = 3) with rfl | rfl | rfl | rfl <;> rfl) (by omega) (by omega) dX9_init_81 ?_
  refine V.pic (hx_px1 _ _ _) rfl ?_
  refine V.dup (pc := 84) hB dX9_init_84 rfl ?_
  refine V.callI (pc := 85) (av := []) hB cw_J4_init_da8c8 wm_X9_53 rfl wi_J4_init_da8c8 dX9_init_85 (d' := 4) (by omega) (by decide) (ct_J4_init_da8c8 hG hE) noH_no rfl (by exact Nat.le_of_ble_eq_true rfl) (by omega) (by omega) (fun v h2 sz2 hq => ?_) rfl
  obtain ⟨rfl, rfl, rfl⟩ := hq
  refine V.pic (px_cat _ _ _ _ _ _) rfl ?_
  refine V.ctF (pc := 88) hB hI fk_Bells 9 wf_X9_54 dX9_init_88 (by decide) rfl rfl rfl (by omega) (Nat.le_of_ble_eq_true rfl) rfl rfl ?_
  refine V.aload_n (pc := 91) hB dX9_init_91 rfl ?_
  refine V.sipush (pc := 92) (v := 141) hB dX9_init_92 rfl ?_
  refine V.newarr (pc := 95) hB 0 (atype := .int) (N' := 141) (a0 := (141, .inl (fun _ => 0))) war_int rfl rfl (fun _ => rfl) (by decide) rfl (Nat.le_of_ble_eq_true rfl) (by omega) (by omega) dX9_init_95 ?_
  refine V.pic (px_push _ _ _ _ _) rfl ?_
  refine V.ctF (pc := 97) hB hI fk_Bells 10 wf_X9_58 dX9_init_97 (by decide) rfl rfl rfl (by omega) (Nat.le_of_ble_eq_true rfl) rfl rfl ?_
  refine V.wid (by omega) (by omega) (V.vret hB dX9_init_100 rfl ⟨rfl, rfl, ?_⟩)
  exact px_congr (fun k hk => by
    unfold bellsP
    repeat' split
    all_goals first | (exfalso; omega) | rfl)
