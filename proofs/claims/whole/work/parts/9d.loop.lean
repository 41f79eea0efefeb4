/-! the law's loop and its start -/
section LL
variable {g : xG} {B : BT} {Q : State → Prop} {b L : Nat} {xs : Nat → Int32}
def KE (g : xG) (B : BT) (Q : State → Prop) : Prop := ∀ (k n sz : Nat) (m : Mem) (ls : List (Option Value)), k ≤ 603072 → n ≤ 7207018 → V g B k n Q (hp g m) sz 2605 ls []
theorem low6 (x : Int32) : ∃ w, w < 64 ∧ (x &&& 63) = nI w := by
  refine ⟨(x &&& 63).toBitVec.toNat, ?_, ?_⟩
  · have h : (x &&& 63).toBitVec.toNat = x.toBitVec.toNat &&& 63 := by rfl
    rw [h]
    exact Nat.lt_of_le_of_lt Nat.and_le_right (by decide)
  · apply Int32.toBitVec_inj.mp
    apply BitVec.eq_of_toNat_eq
    show _ = (Int32.ofNat _).toBitVec.toNat
    rw [show (Int32.ofNat (x &&& 63).toBitVec.toNat).toBitVec = BitVec.ofNat 32 (x &&& 63).toBitVec.toNat from rfl, BitVec.toNat_ofNat, Nat.mod_eq_of_lt (BitVec.isLt _)]
theorem tail_lt {L c : Nat} (hL : L ≤ 2048) (hc : c ≤ L / 4) (h : ¬ nI L - 4 < nI (4 * c)) : 4 * c + 4 ≤ L := by
  have e : (nI L - 4 : Int32).toInt = (L : Int) - (4 : Nat) := nI_sub_toInt (a := L) (b := 4) (by omega) (by decide)
  rw [Int32.lt_iff_toInt_lt, e, nI_toI (by omega)] at h
  omega
set_option maxRecDepth 100000 in
set_option maxHeartbeats 4000000 in
theorem law_loop {z : xE} (hE : GE g z) (hB : Bd g B code 9 RL ret 51 603072 7207018) (hG : GK g) (hS : va_T .int b L (fun j => .int (xs j)) (xFree g) g.1 g.1.heap) (hL : L ≤ 2048) (ke : KE g B Q) : ∀ c, c ≤ L / 4 → ∀ (m : Mem) (sz : Nat), JA (5000 * c) m → V g B (375 + 42 * c) (6000 + 8300 * c) Q (hp g m) sz 28 (lsL g b c) [] := by
  refine loop_up (fun c hc hn m sz hJ => ?_)
  show V g B (375 + 42 * c) (6000 + 8300 * c) Q (hp g m) sz 28 [some (.ref b), some (.ref (ad g 0)), some (.ref (ad g 363)), some (.ref (ad g 373)), some (.ref (ad g 374)), some (.int (nI (4 * c))), none, none, none] []
  refine V.iload (pc := 28) hB dL_law_28 rfl ?_
  refine V.aload_n (pc := 30) hB dL_law_30 rfl ?_
  refine V.stlen (pc := 31) (v := nI L) hB hS rfl dL_law_31 ?_
  refine V.iconst (pc := 32) (v := 4) hB dL_law_32 rfl ?_
  refine V.isub (pc := 33) hB dL_law_33 ?_
  refine V.icmp_gt (pc := 34) (tgt := 2605) hB dL_law_34 (by decide) (fun _ => ke _ _ _ _ _ (by omega) (by omega)) (fun hlt => ?_)
  have h4 := tail_lt hL hc hlt
  have nx : NX g B Q b c := by
    intro m2 sz2 hJ2
    show V g B (375 + 42 * (c + 1)) (6000 + 8300 * (c + 1)) Q (hp g m2) sz2 2599 [some (.ref b), some (.ref (ad g 0)), some (.ref (ad g 363)), some (.ref (ad g 373)), some (.ref (ad g 374)), some (.int (nI (4 * c))), none, none, none] []
    refine V.iinc (pc := 2599) (v := nI (4 * (c + 1))) hB dL_law_2599 rfl (nI_plus (4 * c) 4) (by decide) rfl ?_
    exact V.goto (pc := 2602) (tgt := 28) hB dL_law_2602 (by decide) (hn (by omega) m2 sz2 hJ2)
  refine V.aload_n (pc := 37) hB dL_law_37 rfl ?_
  refine V.iload (pc := 38) hB dL_law_38 rfl ?_
  refine V.sti (pc := 40) hB hS (sx0 (xs := xs) h4 hL).1 (sx0 (xs := xs) h4 hL).2 dL_law_40 ?_
  refine V.bipush (pc := 41) (v := 63) hB dL_law_41 rfl ?_
  refine V.iand (pc := 43) hB dL_law_43 ?_
  obtain ⟨w, hw64, hwe⟩ := low6 (xs (4 * c))
  rw [hwe]
  rcases (by omega : w = 0 ∨ w = 1 ∨ w = 2 ∨ w = 3 ∨ w = 4 ∨ w = 5 ∨ w = 6 ∨ w = 7 ∨ w = 8 ∨ w = 9 ∨ w = 10 ∨ w = 11 ∨ w = 12 ∨ w = 13 ∨ w = 14 ∨ w = 15 ∨ w = 16 ∨ w = 17 ∨ w = 18 ∨ w = 19 ∨ w = 20 ∨ w = 21 ∨ w = 22 ∨ w = 23 ∨ w = 24 ∨ w = 25 ∨ w = 26 ∨ w = 27 ∨ w = 28 ∨ w = 29 ∨ w = 30 ∨ w = 31 ∨ w = 32 ∨ w = 33 ∨ w = 34 ∨ w = 35 ∨ w = 36 ∨ w = 37 ∨ w = 38 ∨ w = 39 ∨ w = 40 ∨ w = 41 ∨ w = 42 ∨ w = 43 ∨ w = 44 ∨ w = 45 ∨ w = 46 ∨ w = 47 ∨ w = 48 ∨ w = 49 ∨ w = 50 ∨ 51 ≤ w) with hw | hw | hw | hw | hw | hw | hw | hw | hw | hw | hw | hw | hw | hw | hw | hw | hw | hw | hw | hw | hw | hw | hw | hw | hw | hw | hw | hw | hw | hw | hw | hw | hw | hw | hw | hw | hw | hw | hw | hw | hw | hw | hw | hw | hw | hw | hw | hw | hw | hw | hw | hw
  · subst hw; exact V.tsw_in (tgt := 264) (off := 220) hB dL_law_44 (by decide +kernel) (by decide +kernel) (by decide +kernel) (by decide) (lk_0 hE hB hG hS h4 hL hJ nx)
  · subst hw; exact V.tsw_in (tgt := 320) (off := 276) hB dL_law_44 (by decide +kernel) (by decide +kernel) (by decide +kernel) (by decide) (lk_1 hE hB hG hS h4 hL hJ nx)
  · subst hw; exact V.tsw_in (tgt := 400) (off := 356) hB dL_law_44 (by decide +kernel) (by decide +kernel) (by decide +kernel) (by decide) (lk_2 hE hB hG hS h4 hL hJ nx)
  · subst hw; exact V.tsw_in (tgt := 413) (off := 369) hB dL_law_44 (by decide +kernel) (by decide +kernel) (by decide +kernel) (by decide) (lk_3 hE hB hG hS h4 hL hJ nx)
  · subst hw; exact V.tsw_in (tgt := 469) (off := 425) hB dL_law_44 (by decide +kernel) (by decide +kernel) (by decide +kernel) (by decide) (lk_4 hE hB hG hS h4 hL hJ nx)
  · subst hw; exact V.tsw_in (tgt := 525) (off := 481) hB dL_law_44 (by decide +kernel) (by decide +kernel) (by decide +kernel) (by decide) (lk_5 hE hB hG hS h4 hL hJ nx)
  · subst hw; exact V.tsw_in (tgt := 593) (off := 549) hB dL_law_44 (by decide +kernel) (by decide +kernel) (by decide +kernel) (by decide) (lk_6 hE hB hG hS h4 hL hJ nx)
  · subst hw; exact V.tsw_in (tgt := 661) (off := 617) hB dL_law_44 (by decide +kernel) (by decide +kernel) (by decide +kernel) (by decide) (lk_7 hE hB hG hS h4 hL hJ nx)
  · subst hw; exact V.tsw_in (tgt := 729) (off := 685) hB dL_law_44 (by decide +kernel) (by decide +kernel) (by decide +kernel) (by decide) (lk_8 hE hB hG hS h4 hL hJ nx)
  · subst hw; exact V.tsw_in (tgt := 785) (off := 741) hB dL_law_44 (by decide +kernel) (by decide +kernel) (by decide +kernel) (by decide) (lk_9 hE hB hG hS h4 hL hJ nx)
  · subst hw; exact V.tsw_in (tgt := 841) (off := 797) hB dL_law_44 (by decide +kernel) (by decide +kernel) (by decide +kernel) (by decide) (lk_10 hE hB hG hS h4 hL hJ nx)
  · subst hw; exact V.tsw_in (tgt := 909) (off := 865) hB dL_law_44 (by decide +kernel) (by decide +kernel) (by decide +kernel) (by decide) (lk_11 hE hB hG hS h4 hL hJ nx)
  · subst hw; exact V.tsw_in (tgt := 965) (off := 921) hB dL_law_44 (by decide +kernel) (by decide +kernel) (by decide +kernel) (by decide) (lk_12 hE hB hG hS h4 hL hJ nx)
  · subst hw; exact V.tsw_in (tgt := 978) (off := 934) hB dL_law_44 (by decide +kernel) (by decide +kernel) (by decide +kernel) (by decide) (lk_13 hE hB hG hS h4 hL hJ nx)
  · subst hw; exact V.tsw_in (tgt := 1034) (off := 990) hB dL_law_44 (by decide +kernel) (by decide +kernel) (by decide +kernel) (by decide) (lk_14 hE hB hG hS h4 hL hJ nx)
  · subst hw; exact V.tsw_in (tgt := 1047) (off := 1003) hB dL_law_44 (by decide +kernel) (by decide +kernel) (by decide +kernel) (by decide) (lk_15 hE hB hG hS h4 hL hJ nx)
  · subst hw; exact V.tsw_in (tgt := 1091) (off := 1047) hB dL_law_44 (by decide +kernel) (by decide +kernel) (by decide +kernel) (by decide) (lk_16 hE hB hG hS h4 hL hJ nx)
  · subst hw; exact V.tsw_in (tgt := 1147) (off := 1103) hB dL_law_44 (by decide +kernel) (by decide +kernel) (by decide +kernel) (by decide) (lk_17 hE hB hG hS h4 hL hJ nx)
  · subst hw; exact V.tsw_in (tgt := 1215) (off := 1171) hB dL_law_44 (by decide +kernel) (by decide +kernel) (by decide +kernel) (by decide) (lk_18 hE hB hG hS h4 hL hJ nx)
  · subst hw; exact V.tsw_in (tgt := 1271) (off := 1227) hB dL_law_44 (by decide +kernel) (by decide +kernel) (by decide +kernel) (by decide) (lk_19 hE hB hG hS h4 hL hJ nx)
  · subst hw; exact V.tsw_in (tgt := 1284) (off := 1240) hB dL_law_44 (by decide +kernel) (by decide +kernel) (by decide +kernel) (by decide) (lk_20 hE hB hG hS h4 hL hJ nx)
  · subst hw; exact V.tsw_in (tgt := 1340) (off := 1296) hB dL_law_44 (by decide +kernel) (by decide +kernel) (by decide +kernel) (by decide) (lk_21 hE hB hG hS h4 hL hJ nx)
  · subst hw; exact V.tsw_in (tgt := 1396) (off := 1352) hB dL_law_44 (by decide +kernel) (by decide +kernel) (by decide +kernel) (by decide) (lk_22 hE hB hG hS h4 hL hJ nx)
  · subst hw; exact V.tsw_in (tgt := 1421) (off := 1377) hB dL_law_44 (by decide +kernel) (by decide +kernel) (by decide +kernel) (by decide) (lk_23 hE hB hG hS h4 hL hJ nx)
  · subst hw; exact V.tsw_in (tgt := 1489) (off := 1445) hB dL_law_44 (by decide +kernel) (by decide +kernel) (by decide +kernel) (by decide) (lk_24 hE hB hG hS h4 hL hJ nx)
  · subst hw; exact V.tsw_in (tgt := 1557) (off := 1513) hB dL_law_44 (by decide +kernel) (by decide +kernel) (by decide +kernel) (by decide) (lk_25 hE hB hG hS h4 hL hJ nx)
  · subst hw; exact V.tsw_in (tgt := 1570) (off := 1526) hB dL_law_44 (by decide +kernel) (by decide +kernel) (by decide +kernel) (by decide) (lk_26 hE hB hG hS h4 hL hJ nx)
  · subst hw; exact V.tsw_in (tgt := 1626) (off := 1582) hB dL_law_44 (by decide +kernel) (by decide +kernel) (by decide +kernel) (by decide) (lk_27 hE hB hG hS h4 hL hJ nx)
  · subst hw; exact V.tsw_in (tgt := 1682) (off := 1638) hB dL_law_44 (by decide +kernel) (by decide +kernel) (by decide +kernel) (by decide) (lk_28 hE hB hG hS h4 hL hJ nx)
  · subst hw; exact V.tsw_in (tgt := 1738) (off := 1694) hB dL_law_44 (by decide +kernel) (by decide +kernel) (by decide +kernel) (by decide) (lk_29 hE hB hG hS h4 hL hJ nx)
  · subst hw; exact V.tsw_in (tgt := 1794) (off := 1750) hB dL_law_44 (by decide +kernel) (by decide +kernel) (by decide +kernel) (by decide) (lk_30 hE hB hG hS h4 hL hJ nx)
  · subst hw; exact V.tsw_in (tgt := 1807) (off := 1763) hB dL_law_44 (by decide +kernel) (by decide +kernel) (by decide +kernel) (by decide) (lk_31 hE hB hG hS h4 hL hJ nx)
  · subst hw; exact V.tsw_in (tgt := 1820) (off := 1776) hB dL_law_44 (by decide +kernel) (by decide +kernel) (by decide +kernel) (by decide) (lk_32 hE hB hG hS h4 hL hJ nx)
  · subst hw; exact V.tsw_in (tgt := 1833) (off := 1789) hB dL_law_44 (by decide +kernel) (by decide +kernel) (by decide +kernel) (by decide) (lk_33 hE hB hG hS h4 hL hJ nx)
  · subst hw; exact V.tsw_in (tgt := 1889) (off := 1845) hB dL_law_44 (by decide +kernel) (by decide +kernel) (by decide +kernel) (by decide) (lk_34 hE hB hG hS h4 hL hJ nx)
  · subst hw; exact V.tsw_in (tgt := 1945) (off := 1901) hB dL_law_44 (by decide +kernel) (by decide +kernel) (by decide +kernel) (by decide) (lk_35 hE hB hG hS h4 hL hJ nx)
  · subst hw; exact V.tsw_in (tgt := 1958) (off := 1914) hB dL_law_44 (by decide +kernel) (by decide +kernel) (by decide +kernel) (by decide) (lk_36 hE hB hG hS h4 hL hJ nx)
  · subst hw; exact V.tsw_in (tgt := 1971) (off := 1927) hB dL_law_44 (by decide +kernel) (by decide +kernel) (by decide +kernel) (by decide) (lk_37 hE hB hG hS h4 hL hJ nx)
  · subst hw; exact V.tsw_in (tgt := 1984) (off := 1940) hB dL_law_44 (by decide +kernel) (by decide +kernel) (by decide +kernel) (by decide) (lk_38 hE hB hG hS h4 hL hJ nx)
  · subst hw; exact V.tsw_in (tgt := 2042) (off := 1998) hB dL_law_44 (by decide +kernel) (by decide +kernel) (by decide +kernel) (by decide) (lk_39 hE hB hG hS h4 hL hJ nx)
  · subst hw; exact V.tsw_in (tgt := 2086) (off := 2042) hB dL_law_44 (by decide +kernel) (by decide +kernel) (by decide +kernel) (by decide) (lk_40 hE hB hG hS h4 hL hJ nx)
  · subst hw; exact V.tsw_in (tgt := 2130) (off := 2086) hB dL_law_44 (by decide +kernel) (by decide +kernel) (by decide +kernel) (by decide) (lk_41 hE hB hG hS h4 hL hJ nx)
  · subst hw; exact V.tsw_in (tgt := 2174) (off := 2130) hB dL_law_44 (by decide +kernel) (by decide +kernel) (by decide +kernel) (by decide) (lk_42 hE hB hG hS h4 hL hJ nx)
  · subst hw; exact V.tsw_in (tgt := 2218) (off := 2174) hB dL_law_44 (by decide +kernel) (by decide +kernel) (by decide +kernel) (by decide) (lk_43 hE hB hG hS h4 hL hJ nx)
  · subst hw; exact V.tsw_in (tgt := 2274) (off := 2230) hB dL_law_44 (by decide +kernel) (by decide +kernel) (by decide +kernel) (by decide) (lk_44 hE hB hG hS h4 hL hJ nx)
  · subst hw; exact V.tsw_in (tgt := 2330) (off := 2286) hB dL_law_44 (by decide +kernel) (by decide +kernel) (by decide +kernel) (by decide) (lk_45 hE hB hG hS h4 hL hJ nx)
  · subst hw; exact V.tsw_in (tgt := 2407) (off := 2363) hB dL_law_44 (by decide +kernel) (by decide +kernel) (by decide +kernel) (by decide) (lk_46 hE hB hG hS h4 hL hJ nx)
  · subst hw; exact V.tsw_in (tgt := 2485) (off := 2441) hB dL_law_44 (by decide +kernel) (by decide +kernel) (by decide +kernel) (by decide) (lk_47 hE hB hG hS h4 hL hJ nx)
  · subst hw; exact V.tsw_in (tgt := 2498) (off := 2454) hB dL_law_44 (by decide +kernel) (by decide +kernel) (by decide +kernel) (by decide) (lk_48 hE hB hG hS h4 hL hJ nx)
  · subst hw; exact V.tsw_in (tgt := 2542) (off := 2498) hB dL_law_44 (by decide +kernel) (by decide +kernel) (by decide +kernel) (by decide) (lk_49 hE hB hG hS h4 hL hJ nx)
  · subst hw; exact V.tsw_in (tgt := 2555) (off := 2511) hB dL_law_44 (by decide +kernel) (by decide +kernel) (by decide +kernel) (by decide) (lk_50 hE hB hG hS h4 hL hJ nx)
  · exact V.tsw_out (tgt := 2599) hB dL_law_44 (Or.inr (by rw [nI_toI (by omega)]; omega)) (by decide) (nx.go (by omega) (by omega) hJ (by omega))
set_option maxRecDepth 100000 in
set_option maxHeartbeats 4000000 in
theorem law_go {z : xE} (hE : GE g z) (hB : Bd g B code 9 RL ret 51 603072 7207018) (hG : GK g) (hS : va_T .int b L (fun j => .int (xs j)) (xFree g) g.1 g.1.heap) (hL : L ≤ 2048) (ke : KE g B Q) : V g B 0 0 Q (fun _ => none) (ad g 0) 0 [some (.ref b), none, none, none, none, none, none, none, none] [] := by
  refine V.newo (pc := 0) hB fk_Bells wc_L_8 wib_X9 wn_X9 (fs := [.null, .null, .null, .int 0, .null, .null, .int 0, .int 0, .int 0, .null, .null]) (fun j hj => by
      rcases (by omega : j = 0 ∨ j = 1 ∨ j = 2 ∨ j = 3 ∨ j = 4 ∨ j = 5 ∨ j = 6 ∨ j = 7 ∨ j = 8 ∨ j = 9 ∨ j = 10) with rfl | rfl | rfl | rfl | rfl | rfl | rfl | rfl | rfl | rfl | rfl <;> rfl) (by omega) (by omega) dL_law_0 ?_
  refine V.pic (hx_px1 _ _ _) rfl ?_
  refine V.dup (pc := 3) hB dL_law_3 rfl ?_
  refine V.callI (pc := 4) (av := []) hB cw_X9_init wm_L_141 rfl wi_X9_init dL_law_4 (d' := 8) (by omega) (by decide) (ct_X9_init hG hE) noH_no rfl (by exact Nat.le_of_ble_eq_true rfl) (by omega) (by omega) (fun v h2 sz2 hq => ?_) rfl
  obtain ⟨rfl, rfl, rfl⟩ := hq
  refine V.pic rfl (show ad g 0 + 1 + 362 = ad g 363 by unfold ad; omega) ?_
  refine V.astore_n (pc := 7) hB dL_law_7 (by decide) rfl ?_
  refine V.newo (pc := 8) hB fk_Model wc_L_142 wib_X10 wn_X10 (fs := [.null, .null, .null, .null, .null, .int 0, .int 0, .int 0, .int 0, .int 0, .null, .null, .int 0, .null, .int 0, .int 0, .int 0, .int 0, .int 0, .int 0, .null]) (fun j hj => by
      rcases (by omega : j = 0 ∨ j = 1 ∨ j = 2 ∨ j = 3 ∨ j = 4 ∨ j = 5 ∨ j = 6 ∨ j = 7 ∨ j = 8 ∨ j = 9 ∨ j = 10 ∨ j = 11 ∨ j = 12 ∨ j = 13 ∨ j = 14 ∨ j = 15 ∨ j = 16 ∨ j = 17 ∨ j = 18 ∨ j = 19 ∨ j = 20) with rfl | rfl | rfl | rfl | rfl | rfl | rfl | rfl | rfl | rfl | rfl | rfl | rfl | rfl | rfl | rfl | rfl | rfl | rfl | rfl | rfl <;> rfl) (by omega) (by omega) dL_law_8 ?_
  refine V.pic (hx_px1 _ _ _) rfl ?_
  refine V.dup (pc := 11) hB dL_law_11 rfl ?_
  refine V.callI (pc := 12) (av := []) hB cw_X10_init wm_L_144 rfl wi_X10_init dL_law_12 (d' := 2) (by omega) (by decide) (ct_X10_init hG) noH_no rfl (by exact Nat.le_of_ble_eq_true rfl) (by omega) (by omega) (fun v h2 sz2 hq => ?_) rfl
  obtain ⟨rfl, rfl, rfl⟩ := hq
  refine V.pic rfl (show ad g 363 + 1 + 9 = ad g 373 by unfold ad; omega) ?_
  refine V.astore_n (pc := 15) hB dL_law_15 (by decide) rfl ?_
  refine V.iconst (pc := 16) (v := 1) hB dL_law_16 rfl ?_
  refine V.newarr (pc := 17) hB 2 (atype := .long) (N' := 1) (a0 := (1, .inr (.inl (fun _ => 0)))) war_long rfl rfl (fun _ => rfl) (by decide) rfl (Nat.le_of_ble_eq_true rfl) (by omega) (by omega) dL_law_17 ?_
  refine V.pic rfl (show ad g 373 + 1 = ad g 374 by unfold ad; omega) ?_
  refine V.astore_n (pc := 19) hB dL_law_19 (by decide) rfl ?_
  refine V.iconst (pc := 20) (v := 1) hB dL_law_20 rfl ?_
  refine V.newarr (pc := 21) hB 3 (atype := .double) (N' := 1) (a0 := (1, .inr (.inr (.inr (.inl (fun _ => 0)))))) war_double rfl rfl (fun _ => rfl) (by decide) rfl (Nat.le_of_ble_eq_true rfl) (by omega) (by omega) dL_law_21 ?_
  refine V.pic (start_pic g) rfl ?_
  refine V.astore (pc := 23) hB dL_law_23 (by decide) rfl ?_
  refine V.iconst (pc := 25) (v := 0) hB dL_law_25 rfl ?_
  refine V.istore (pc := 26) hB dL_law_26 (by decide) rfl ?_
  exact V.wid (k' := 375 + 42 * 0) (n' := 6000 + 8300 * 0) (by omega) (by omega) (law_loop hE hB hG hS hL ke 0 (Nat.zero_le _) m00 _ jaS0)
end LL
