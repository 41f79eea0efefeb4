/-! the constructors with loops, the class's, the reference's -/

theorem nI_lt0 {n : Nat} (h : n < 1000000) : ¬ nI n < 0 := fun z => absurd ((nI_lt' (b := 0) (by omega) (by decide)).mp z) (by omega)
theorem landP_s (g : xG) (a q k : Nat) (hq : q < 5) (hk : k < 10 + 4 * q + 4) {e : va_E} (he : e = refRow g 6 5 (fun y => a + (10 + 4 * y)) (q + 1)) : (if k = 1 then e else if k < 10 + 4 * q then landP g a q k else lakeE g (a + (10 + 4 * q)) (k - (10 + 4 * q))) = landP g a (q + 1) k := by
  unfold landP
  by_cases h1 : k = 1
  · rw [if_pos h1, if_neg (by omega), if_pos h1, he]
  · rw [if_neg h1]
    by_cases h2 : k < 10 + 4 * q
    · rw [if_pos h2, if_neg h1, if_neg h1]
    · rw [if_neg h2, if_neg (by omega), if_neg h1, if_neg (by omega), if_neg (by omega), show (k - 10) / 4 = q by omega, show k - (10 + 4 * q) = (k - 10) % 4 by omega]
theorem histP_s (g : xG) (a q k : Nat) (hq : q < 8) (hk : k < 2 + 30 * q + 30) {e : va_E} (he : e = refRow g 7 8 (fun y => a + (2 + 30 * y)) (q + 1)) : (if k = 1 then e else if k < 2 + 30 * q then histP g a q k else landP g (a + (2 + 30 * q)) 5 (k - (2 + 30 * q))) = histP g a (q + 1) k := by
  unfold histP
  by_cases h1 : k = 1
  · rw [if_pos h1, if_neg (by omega), if_pos h1, he]
  · rw [if_neg h1]
    by_cases h2 : k < 2 + 30 * q
    · rw [if_pos h2, if_neg h1, if_neg h1]
    · rw [if_neg h2, if_neg (by omega), if_neg h1, show (k - 2) / 30 = q by omega, show k - (2 + 30 * q) = (k - 2) % 30 by omega]
theorem ctxP_s (g : xG) (a q k : Nat) (hq : q < 12) (hk : k < 3 + 2 * q + 2) {e : va_E} (he : e = refRow g 5 12 (fun y => a + (3 + 2 * y)) (q + 1)) : (if k = 2 then e else if k < 3 + 2 * q then ctxP g a q k else cmdE g (a + (3 + 2 * q)) (k - (3 + 2 * q))) = ctxP g a (q + 1) k := by
  unfold ctxP
  by_cases h1 : k = 2
  · rw [if_pos h1, if_neg (by omega), if_neg (by omega), if_pos h1, he]
  · rw [if_neg h1]
    by_cases h2 : k < 3 + 2 * q
    · rw [if_pos h2, if_neg h1, if_neg h1]
    · rw [if_neg h2, if_neg (by omega), if_neg (by omega), if_neg h1, show (k - 3) / 2 = q by omega, show k - (3 + 2 * q) = (k - 3) % 2 by omega]

set_option maxRecDepth 100000 in
set_option maxHeartbeats 1000000 in
theorem ct_X6_init {g : xG} (hG : GK g) {a : Nat} {h : xH} : Ct g yX6_init (.code yX6_init cX6_init 2 none) 4 29 240 [.ref a] (px h a 1 (fun _ => .inr (4, [.null, .int 0, .int 0, .int 0, .int 0, .int 0, .null, .null]))) (a + 1) (fun r h' sz' => r = none ∧ sz' = a + 1 + 29 ∧ h' = px h a 30 (landP g a 5)) noH := by
  refine Ct.mk hG RX6 rfl (by decide +kernel) rfl (Nat.le_of_ble_eq_true rfl) (fun B hB _ hi => ?_)
  have hI := hi rfl
  show V g B 0 0 _ (px h a 1 _) (a + 1) 0 [some (.ref a), none] []
  have loop : ∀ q : Nat, q ≤ 5 → V g B (9 + 4 * q) (90 + 30 * q) (QE g B 29 240 (fun r h' sz' => r = none ∧ sz' = a + 1 + 29 ∧ h' = px h a 30 (landP g a 5)) noH) (px h a (10 + 4 * q) (landP g a q)) (a + (10 + 4 * q)) 61 [some (.ref a), some (.int (nI q))] [] := by
    refine loop_up (fun q hq ih => ?_)
    refine V.iload_n (pc := 61) hB dX6_init_61 rfl ?_
    refine V.iconst (pc := 62) (v := 5) hB dX6_init_62 rfl ?_
    refine V.icmp_ge (pc := 63) (tgt := 85) hB dX6_init_63 (by decide) (fun c => ?_) (fun c => ?_)
    · have hqn : q = 5 := by have := (nI_leI (a := 5) (by decide) (by omega)).mp c; omega
      subst hqn
      refine V.wid (by omega) (by omega) (V.vret hB dX6_init_85 rfl ⟨rfl, rfl, rfl⟩)
    · have hlt : q < 5 := Nat.not_le.mp (fun z => c ((nI_leI (a := 5) (by decide) (by omega)).mpr z))
      refine V.aload_n (pc := 66) hB dX6_init_66 rfl ?_
      refine V.get (pc := 67) hB fk_Land 0 wf_X6_11 dX6_init_67 (by decide) (px_0 h a _ (by omega)) rfl ?_
      refine V.iload_n (pc := 70) hB dX6_init_70 rfl ?_
      refine V.newo (pc := 71) hB fk_Lake wc_X6_9 wib_X5 wn_X5 (fs := [.null, .null, .null, .int 0, .int 0, .int 0]) (fun j hj => by
          rcases (by omega : j = 0 ∨ j = 1 ∨ j = 2 ∨ j = 3 ∨ j = 4 ∨ j = 5) with rfl | rfl | rfl | rfl | rfl | rfl <;> rfl) (by omega) (by omega) dX6_init_71 ?_
      refine V.pic (hx_px1 _ _ _) rfl ?_
      refine V.dup (pc := 74) hB dX6_init_74 rfl ?_
      refine V.callIN (pc := 75) (av := []) hB cw_X5_init wmn_X6_47 rfl wi_X5_init dX6_init_75 (d' := 2) (by omega) (by decide) (ct_X5_init hG) noH_no rfl (by exact Nat.le_of_ble_eq_true rfl) (by omega) (by omega) (fun v h2 sz2 hq => ?_) rfl
      obtain ⟨rfl, rfl, rfl⟩ := hq
      refine V.pic (px_cat _ _ _ _ _ _) rfl ?_
      refine V.aast (pc := 78) hB (t := 6) (v := a + (10 + 4 * q)) (i := nI q) rfl (show px h a _ _ (a + 1) = some (refRow g 6 5 (fun y => a + (10 + 4 * y)) q) from (px_at h a _ (by omega)).trans (congrArg some (if_pos (by omega)))) (show px h a _ _ (a + (10 + 4 * q)) = some (lakeE g (a + (10 + 4 * q)) 0) from (px_at h a _ (by omega)).trans (congrArg some ((if_neg (by omega)).trans (congrArg (lakeE g (a + (10 + 4 * q))) (Nat.sub_self _))))) rfl (by rintro (z | z); exact nI_lt0 (by omega) z; rw [nI_clamp (by omega)] at z; omega) dX6_init_78 (hx_at _ _ _) (fun q hq => hx_ne _ _ hq) ?_
      refine V.pic (px_set _ _ _ _ (by omega)) rfl ?_
      refine V.iinc (pc := 79) (v := nI (q + 1)) hB dX6_init_79 rfl (nI_1 _) (by decide) rfl ?_
      refine V.goto (pc := 82) (tgt := 61) hB dX6_init_82 (by decide) ?_
      refine V.pic (h2 := px h a (10 + 4 * (q + 1)) (landP g a (q + 1))) (sz2 := a + (10 + 4 * (q + 1))) ?_ (by omega) (V.wid (by omega) (by omega) (ih hlt))
      rw [show 10 + 4 * (q + 1) = 10 + 4 * q + 4 by omega]
      exact px_congr (fun k hk => landP_s g a q k hlt hk (refRow_s g 6 5 (fun y => a + (10 + 4 * y)) q (by omega)))
  refine V.aload_n (pc := 0) hB dX6_init_0 rfl ?_
  refine V.objInit (pc := 1) hB wmo_X6 dX6_init_1 (by omega) (by exact Nat.le_of_ble_eq_true rfl) ?_
  refine V.aload_n (pc := 4) hB dX6_init_4 rfl ?_
  refine V.iconst (pc := 5) (v := 5) hB dX6_init_5 rfl ?_
  refine V.newref (pc := 6) hB 6 (N' := 5) wc_X6_9 wao_X5 rfl (by decide) rfl (Nat.le_of_ble_eq_true rfl) (by omega) (by omega) dX6_init_6 ?_
  refine V.pic (px_push _ _ _ _ _) rfl ?_
  refine V.ctF (pc := 9) hB hI fk_Land 0 wf_X6_11 dX6_init_9 (by decide) rfl rfl rfl (by omega) (Nat.le_of_ble_eq_true rfl) rfl rfl ?_
  refine V.aload_n (pc := 12) hB dX6_init_12 rfl ?_
  refine V.iconst (pc := 13) (v := 0) hB dX6_init_13 rfl ?_
  refine V.ctP (pc := 14) hB fk_Land 1 wf_X6_17 dX6_init_14 (by decide) rfl rfl (by omega) (Nat.le_of_ble_eq_true rfl) rfl rfl ?_
  refine V.aload_n (pc := 17) hB dX6_init_17 rfl ?_
  refine V.iconst (pc := 18) (v := 0) hB dX6_init_18 rfl ?_
  refine V.ctP (pc := 19) hB fk_Land 2 wf_X6_21 dX6_init_19 (by decide) rfl rfl (by omega) (Nat.le_of_ble_eq_true rfl) rfl rfl ?_
  refine V.aload_n (pc := 22) hB dX6_init_22 rfl ?_
  refine V.iconst (pc := 23) (v := 0) hB dX6_init_23 rfl ?_
  refine V.ctP (pc := 24) hB fk_Land 3 wf_X6_24 dX6_init_24 (by decide) rfl rfl (by omega) (Nat.le_of_ble_eq_true rfl) rfl rfl ?_
  refine V.aload_n (pc := 27) hB dX6_init_27 rfl ?_
  refine V.iconst (pc := 28) (v := 0) hB dX6_init_28 rfl ?_
  refine V.ctP (pc := 29) hB fk_Land 4 wf_X6_27 dX6_init_29 (by decide) rfl rfl (by omega) (Nat.le_of_ble_eq_true rfl) rfl rfl ?_
  refine V.aload_n (pc := 32) hB dX6_init_32 rfl ?_
  refine V.iconst (pc := 33) (v := 0) hB dX6_init_33 rfl ?_
  refine V.ctP (pc := 34) hB fk_Land 5 wf_X6_30 dX6_init_34 (by decide) rfl rfl (by omega) (Nat.le_of_ble_eq_true rfl) rfl rfl ?_
  refine V.aload_n (pc := 37) hB dX6_init_37 rfl ?_
  refine V.newo (pc := 38) hB fk_Win wc_X6_33 wib_X8 wn_X8 (fs := [.null, .null, .int 0]) (fun j hj => by
      rcases (by omega : j = 0 ∨ j = 1 ∨ j = 2) with rfl | rfl | rfl <;> rfl) (by omega) (by omega) dX6_init_38 ?_
  refine V.pic (hx_px1 _ _ _) rfl ?_
  refine V.dup (pc := 41) hB dX6_init_41 rfl ?_
  refine V.callIN (pc := 42) (av := []) hB cw_X8_init wmn_X6_35 rfl wi_X8_init dX6_init_42 (d' := 2) (by omega) (by decide) (ct_X8_init hG) noH_no rfl (by exact Nat.le_of_ble_eq_true rfl) (by omega) (by omega) (fun v h2 sz2 hq => ?_) rfl
  obtain ⟨rfl, rfl, rfl⟩ := hq
  refine V.pic (px_cat _ _ _ _ _ _) rfl ?_
  refine V.ctF (pc := 45) hB hI fk_Land 6 wf_X6_36 dX6_init_45 (by decide) rfl rfl rfl (by omega) (Nat.le_of_ble_eq_true rfl) rfl rfl ?_
  refine V.aload_n (pc := 48) hB dX6_init_48 rfl ?_
  refine V.newo (pc := 49) hB fk_Peal wc_X6_40 wib_X7 wn_X7 (fs := [.null, .null, .null, .null, .int 0, .int 0]) (fun j hj => by
      rcases (by omega : j = 0 ∨ j = 1 ∨ j = 2 ∨ j = 3 ∨ j = 4 ∨ j = 5) with rfl | rfl | rfl | rfl | rfl | rfl <;> rfl) (by omega) (by omega) dX6_init_49 ?_
  refine V.pic (hx_px1 _ _ _) rfl ?_
  refine V.dup (pc := 52) hB dX6_init_52 rfl ?_
  refine V.callIN (pc := 53) (av := []) hB cw_X7_init wmn_X6_42 rfl wi_X7_init dX6_init_53 (d' := 2) (by omega) (by decide) (ct_X7_init hG) noH_no rfl (by exact Nat.le_of_ble_eq_true rfl) (by omega) (by omega) (fun v h2 sz2 hq => ?_) rfl
  obtain ⟨rfl, rfl, rfl⟩ := hq
  refine V.pic (px_cat _ _ _ _ _ _) rfl ?_
  refine V.ctF (pc := 56) hB hI fk_Land 7 wf_X6_43 dX6_init_56 (by decide) rfl rfl rfl (by omega) (Nat.le_of_ble_eq_true rfl) rfl rfl ?_
  refine V.iconst (pc := 59) (v := 0) hB dX6_init_59 rfl ?_
  refine V.istore_n (pc := 60) hB dX6_init_60 (by decide) rfl ?_
  refine V.pic (h2 := px h a (10 + 4 * 0) (landP g a 0)) (sz2 := a + (10 + 4 * 0)) ?_ rfl (V.wid (by omega) (by omega) (loop 0 (by omega)))
  exact px_congr (fun k hk => by
      rcases (by omega : k = 0 ∨ k = 1 ∨ k = 2 ∨ k = 3 ∨ k = 4 ∨ k = 5 ∨ k = 6 ∨ k = 7 ∨ k = 8 ∨ k = 9) with rfl | rfl | rfl | rfl | rfl | rfl | rfl | rfl | rfl | rfl
      · rfl
      · exact refRow_0 _ _ _ _
      · rfl
      · rfl
      · rfl
      · rfl
      · rfl
      · rfl
      · rfl
      · rfl)

set_option maxRecDepth 100000 in
set_option maxHeartbeats 1000000 in
theorem ct_X3_init {g : xG} (hG : GK g) {a : Nat} {h : xH} : Ct g yX3_init (.code yX3_init cX3_init 2 none) 6 241 1992 [.ref a] (px h a 1 (fun _ => .inr (2, [.null, .int 0, .int 0]))) (a + 1) (fun r h' sz' => r = none ∧ sz' = a + 1 + 241 ∧ h' = px h a 242 (histP g a 8)) noH := by
  refine Ct.mk hG RX3 rfl (by decide +kernel) rfl (Nat.le_of_ble_eq_true rfl) (fun B hB _ hi => ?_)
  have hI := hi rfl
  show V g B 0 0 _ (px h a 1 _) (a + 1) 0 [some (.ref a), none] []
  have loop : ∀ q : Nat, q ≤ 8 → V g B (1 + 30 * q) (8 + 248 * q) (QE g B 241 1992 (fun r h' sz' => r = none ∧ sz' = a + 1 + 241 ∧ h' = px h a 242 (histP g a 8)) noH) (px h a (2 + 30 * q) (histP g a q)) (a + (2 + 30 * q)) 25 [some (.ref a), some (.int (nI q))] [] := by
    refine loop_up (fun q hq ih => ?_)
    refine V.iload_n (pc := 25) hB dX3_init_25 rfl ?_
    refine V.bipush (pc := 26) (v := 8) hB dX3_init_26 rfl ?_
    refine V.icmp_ge (pc := 28) (tgt := 50) hB dX3_init_28 (by decide) (fun c => ?_) (fun c => ?_)
    · have hqn : q = 8 := by have := (nI_leI (a := 8) (by decide) (by omega)).mp c; omega
      subst hqn
      refine V.wid (by omega) (by omega) (V.vret hB dX3_init_50 rfl ⟨rfl, rfl, rfl⟩)
    · have hlt : q < 8 := Nat.not_le.mp (fun z => c ((nI_leI (a := 8) (by decide) (by omega)).mpr z))
      refine V.aload_n (pc := 31) hB dX3_init_31 rfl ?_
      refine V.get (pc := 32) hB fk_Hist 0 wf_X3_11 dX3_init_32 (by decide) (px_0 h a _ (by omega)) rfl ?_
      refine V.iload_n (pc := 35) hB dX3_init_35 rfl ?_
      refine V.newo (pc := 36) hB fk_Land wc_X3_9 wib_X6 wn_X6 (fs := [.null, .int 0, .int 0, .int 0, .int 0, .int 0, .null, .null]) (fun j hj => by
          rcases (by omega : j = 0 ∨ j = 1 ∨ j = 2 ∨ j = 3 ∨ j = 4 ∨ j = 5 ∨ j = 6 ∨ j = 7) with rfl | rfl | rfl | rfl | rfl | rfl | rfl | rfl <;> rfl) (by omega) (by omega) dX3_init_36 ?_
      refine V.pic (hx_px1 _ _ _) rfl ?_
      refine V.dup (pc := 39) hB dX3_init_39 rfl ?_
      refine V.callI (pc := 40) (av := []) hB cw_X6_init wm_X3_24 rfl wi_X6_init dX3_init_40 (d' := 4) (by omega) (by decide) (ct_X6_init hG) noH_no rfl (by exact Nat.le_of_ble_eq_true rfl) (by omega) (by omega) (fun v h2 sz2 hq => ?_) rfl
      obtain ⟨rfl, rfl, rfl⟩ := hq
      refine V.pic (px_cat _ _ _ _ _ _) rfl ?_
      refine V.aast (pc := 43) hB (t := 7) (v := a + (2 + 30 * q)) (i := nI q) rfl (show px h a _ _ (a + 1) = some (refRow g 7 8 (fun y => a + (2 + 30 * y)) q) from (px_at h a _ (by omega)).trans (congrArg some (if_pos (by omega)))) (show px h a _ _ (a + (2 + 30 * q)) = some (landP g (a + (2 + 30 * q)) 5 0) from (px_at h a _ (by omega)).trans (congrArg some ((if_neg (by omega)).trans (congrArg (landP g (a + (2 + 30 * q)) 5) (Nat.sub_self _))))) rfl (by rintro (z | z); exact nI_lt0 (by omega) z; rw [nI_clamp (by omega)] at z; omega) dX3_init_43 (hx_at _ _ _) (fun q hq => hx_ne _ _ hq) ?_
      refine V.pic (px_set _ _ _ _ (by omega)) rfl ?_
      refine V.iinc (pc := 44) (v := nI (q + 1)) hB dX3_init_44 rfl (nI_1 _) (by decide) rfl ?_
      refine V.goto (pc := 47) (tgt := 25) hB dX3_init_47 (by decide) ?_
      refine V.pic (h2 := px h a (2 + 30 * (q + 1)) (histP g a (q + 1))) (sz2 := a + (2 + 30 * (q + 1))) ?_ (by omega) (V.wid (by omega) (by omega) (ih hlt))
      rw [show 2 + 30 * (q + 1) = 2 + 30 * q + 30 by omega]
      exact px_congr (fun k hk => histP_s g a q k hlt hk (refRow_s g 7 8 (fun y => a + (2 + 30 * y)) q (by omega)))
  refine V.aload_n (pc := 0) hB dX3_init_0 rfl ?_
  refine V.objInit (pc := 1) hB wmo_X3 dX3_init_1 (by omega) (by exact Nat.le_of_ble_eq_true rfl) ?_
  refine V.aload_n (pc := 4) hB dX3_init_4 rfl ?_
  refine V.bipush (pc := 5) (v := 8) hB dX3_init_5 rfl ?_
  refine V.newref (pc := 7) hB 7 (N' := 8) wc_X3_9 wao_X6 rfl (by decide) rfl (Nat.le_of_ble_eq_true rfl) (by omega) (by omega) dX3_init_7 ?_
  refine V.pic (px_push _ _ _ _ _) rfl ?_
  refine V.ctF (pc := 10) hB hI fk_Hist 0 wf_X3_11 dX3_init_10 (by decide) rfl rfl rfl (by omega) (Nat.le_of_ble_eq_true rfl) rfl rfl ?_
  refine V.aload_n (pc := 13) hB dX3_init_13 rfl ?_
  refine V.iconst (pc := 14) (v := 0) hB dX3_init_14 rfl ?_
  refine V.ctP (pc := 15) hB fk_Hist 1 wf_X3_17 dX3_init_15 (by decide) rfl rfl (by omega) (Nat.le_of_ble_eq_true rfl) rfl rfl ?_
  refine V.aload_n (pc := 18) hB dX3_init_18 rfl ?_
  refine V.iconst (pc := 19) (v := 0) hB dX3_init_19 rfl ?_
  refine V.ctP (pc := 20) hB fk_Hist 2 wf_X3_21 dX3_init_20 (by decide) rfl rfl (by omega) (Nat.le_of_ble_eq_true rfl) rfl rfl ?_
  refine V.iconst (pc := 23) (v := 0) hB dX3_init_23 rfl ?_
  refine V.istore_n (pc := 24) hB dX3_init_24 (by decide) rfl ?_
  refine V.pic (h2 := px h a (2 + 30 * 0) (histP g a 0)) (sz2 := a + (2 + 30 * 0)) ?_ rfl (V.wid (by omega) (by omega) (loop 0 (by omega)))
  exact px_congr (fun k hk => by
      rcases (by omega : k = 0 ∨ k = 1) with rfl | rfl
      · rfl
      · exact refRow_0 _ _ _ _)

set_option maxRecDepth 100000 in
set_option maxHeartbeats 1000000 in
theorem ct_X2_init {g : xG} (hG : GK g) {z : xE} (hE : GE g z) {a : Nat} {h : xH} : Ct g yX2_init (.code yX2_init cX2_init 2 none) 4 26 144 [.ref a] (px h a 1 (fun _ => .inr (1, [.null, .int 0, .int 0, .null, .int 0]))) (a + 1) (fun r h' sz' => r = none ∧ sz' = a + 1 + 26 ∧ h' = px h a 27 (ctxP g a 12)) noH := by
  refine Ct.mk hG RX2 rfl (by decide +kernel) rfl (Nat.le_of_ble_eq_true rfl) (fun B hB _ hi => ?_)
  have hI := hi rfl
  show V g B 0 0 _ (px h a 1 _) (a + 1) 0 [some (.ref a), none] []
  have loop : ∀ q : Nat, q ≤ 12 → V g B (2 + 2 * q) (72 + 6 * q) (QE g B 26 144 (fun r h' sz' => r = none ∧ sz' = a + 1 + 26 ∧ h' = px h a 27 (ctxP g a 12)) noH) (px h a (3 + 2 * q) (ctxP g a q)) (a + (3 + 2 * q)) 38 [some (.ref a), some (.int (nI q))] [] := by
    refine loop_up (fun q hq ih => ?_)
    refine V.iload_n (pc := 38) hB dX2_init_38 rfl ?_
    refine V.bipush (pc := 39) (v := 12) hB dX2_init_39 rfl ?_
    refine V.icmp_ge (pc := 41) (tgt := 63) hB dX2_init_41 (by decide) (fun c => ?_) (fun c => ?_)
    · have hqn : q = 12 := by have := (nI_leI (a := 12) (by decide) (by omega)).mp c; omega
      subst hqn
      refine V.wid (by omega) (by omega) (V.vret hB dX2_init_63 rfl ⟨rfl, rfl, rfl⟩)
    · have hlt : q < 12 := Nat.not_le.mp (fun z => c ((nI_leI (a := 12) (by decide) (by omega)).mpr z))
      refine V.aload_n (pc := 44) hB dX2_init_44 rfl ?_
      refine V.get (pc := 45) hB fk_CText 3 wf_X2_24 dX2_init_45 (by decide) (px_0 h a _ (by omega)) rfl ?_
      refine V.iload_n (pc := 48) hB dX2_init_48 rfl ?_
      refine V.newo (pc := 49) hB fk_Cmd wc_X2_22 wib_X1 wn_X1 (fs := [.null, .null, .int 0]) (fun j hj => by
          rcases (by omega : j = 0 ∨ j = 1 ∨ j = 2) with rfl | rfl | rfl <;> rfl) (by omega) (by omega) dX2_init_49 ?_
      refine V.pic (hx_px1 _ _ _) rfl ?_
      refine V.dup (pc := 52) hB dX2_init_52 rfl ?_
      refine V.callIN (pc := 53) (av := []) hB cw_X1_init wmn_X2_31 rfl wi_X1_init dX2_init_53 (d' := 2) (by omega) (by decide) (ct_X1_init hG hE) noH_no rfl (by exact Nat.le_of_ble_eq_true rfl) (by omega) (by omega) (fun v h2 sz2 hq => ?_) rfl
      obtain ⟨rfl, rfl, rfl⟩ := hq
      refine V.pic (px_cat _ _ _ _ _ _) rfl ?_
      refine V.aast (pc := 56) hB (t := 5) (v := a + (3 + 2 * q)) (i := nI q) rfl (show px h a _ _ (a + 2) = some (refRow g 5 12 (fun y => a + (3 + 2 * y)) q) from (px_at h a _ (by omega)).trans (congrArg some (if_pos (by omega)))) (show px h a _ _ (a + (3 + 2 * q)) = some (cmdE g (a + (3 + 2 * q)) 0) from (px_at h a _ (by omega)).trans (congrArg some ((if_neg (by omega)).trans (congrArg (cmdE g (a + (3 + 2 * q))) (Nat.sub_self _))))) rfl (by rintro (z | z); exact nI_lt0 (by omega) z; rw [nI_clamp (by omega)] at z; omega) dX2_init_56 (hx_at _ _ _) (fun q hq => hx_ne _ _ hq) ?_
      refine V.pic (px_set _ _ _ _ (by omega)) rfl ?_
      refine V.iinc (pc := 57) (v := nI (q + 1)) hB dX2_init_57 rfl (nI_1 _) (by decide) rfl ?_
      refine V.goto (pc := 60) (tgt := 38) hB dX2_init_60 (by decide) ?_
      refine V.pic (h2 := px h a (3 + 2 * (q + 1)) (ctxP g a (q + 1))) (sz2 := a + (3 + 2 * (q + 1))) ?_ (by omega) (V.wid (by omega) (by omega) (ih hlt))
      rw [show 3 + 2 * (q + 1) = 3 + 2 * q + 2 by omega]
      exact px_congr (fun k hk => ctxP_s g a q k hlt hk (refRow_s g 5 12 (fun y => a + (3 + 2 * y)) q (by omega)))
  refine V.aload_n (pc := 0) hB dX2_init_0 rfl ?_
  refine V.objInit (pc := 1) hB wmo_X2 dX2_init_1 (by omega) (by exact Nat.le_of_ble_eq_true rfl) ?_
  refine V.aload_n (pc := 4) hB dX2_init_4 rfl ?_
  refine V.bipush (pc := 5) (v := 60) hB dX2_init_5 rfl ?_
  refine V.newarr (pc := 7) hB 1 (atype := .char) (N' := 60) (a0 := (60, .inl (fun _ => 0))) war_char rfl rfl (fun _ => rfl) (by decide) rfl (Nat.le_of_ble_eq_true rfl) (by omega) (by omega) dX2_init_7 ?_
  refine V.pic (px_push _ _ _ _ _) rfl ?_
  refine V.ctF (pc := 9) hB hI fk_CText 0 wf_X2_9 dX2_init_9 (by decide) rfl rfl rfl (by omega) (Nat.le_of_ble_eq_true rfl) rfl rfl ?_
  refine V.aload_n (pc := 12) hB dX2_init_12 rfl ?_
  refine V.iconst (pc := 13) (v := 0) hB dX2_init_13 rfl ?_
  refine V.ctP (pc := 14) hB fk_CText 1 wf_X2_15 dX2_init_14 (by decide) rfl rfl (by omega) (Nat.le_of_ble_eq_true rfl) rfl rfl ?_
  refine V.aload_n (pc := 17) hB dX2_init_17 rfl ?_
  refine V.iconst (pc := 18) (v := 0) hB dX2_init_18 rfl ?_
  refine V.ctP (pc := 19) hB fk_CText 2 wf_X2_19 dX2_init_19 (by decide) rfl rfl (by omega) (Nat.le_of_ble_eq_true rfl) rfl rfl ?_
  refine V.aload_n (pc := 22) hB dX2_init_22 rfl ?_
  refine V.bipush (pc := 23) (v := 12) hB dX2_init_23 rfl ?_
  refine V.newref (pc := 25) hB 5 (N' := 12) wc_X2_22 wao_X1 rfl (by decide) rfl (Nat.le_of_ble_eq_true rfl) (by omega) (by omega) dX2_init_25 ?_
  refine V.pic (px_push _ _ _ _ _) rfl ?_
  refine V.ctF (pc := 28) hB hI fk_CText 3 wf_X2_24 dX2_init_28 (by decide) rfl rfl rfl (by omega) (Nat.le_of_ble_eq_true rfl) rfl rfl ?_
  refine V.aload_n (pc := 31) hB dX2_init_31 rfl ?_
  refine V.iconst (pc := 32) (v := 0) hB dX2_init_32 rfl ?_
  refine V.ctP (pc := 33) hB fk_CText 4 wf_X2_28 dX2_init_33 (by decide) rfl rfl (by omega) (Nat.le_of_ble_eq_true rfl) rfl rfl ?_
  refine V.iconst (pc := 36) (v := 0) hB dX2_init_36 rfl ?_
  refine V.istore_n (pc := 37) hB dX2_init_37 (by decide) rfl ?_
  refine V.pic (h2 := px h a (3 + 2 * 0) (ctxP g a 0)) (sz2 := a + (3 + 2 * 0)) ?_ rfl (V.wid (by omega) (by omega) (loop 0 (by omega)))
  exact px_congr (fun k hk => by
      rcases (by omega : k = 0 ∨ k = 1 ∨ k = 2) with rfl | rfl | rfl
      · rfl
      · rfl
      · exact refRow_0 _ _ _ _)
