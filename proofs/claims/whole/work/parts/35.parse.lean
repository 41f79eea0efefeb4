/-! parse; one command tried, carried out; append, run -/
theorem cmds_step {T : Nat → Int32} {N f p : Nat} {acc : CS} (h7 : kOf T N p < 7) {r : Bool × PS} (hr : formS T N (frm (kOf T N p)) (p, []) = r) : cmdsS T N (f + 1) p acc = if r.1 = true then (if N ≤ r.2.1 then (true, r.2.1, acc ++ [(kOf T N p, r.2.2)]) else if stB T N r.2.1 59 = true then cmdsS T N f (r.2.1 + 1) (acc ++ [(kOf T N p, r.2.2)]) else (false, r.2.1, acc ++ [(kOf T N p, r.2.2)])) else (false, r.2.1, acc) := by
  subst hr
  show (if kOf T N p = 7 then _ else _) = _
  rw [if_neg (by omega)]
def prsM (T : Nat → Int32) (N : Nat) (m m2 : Mem) : Prop := m2.1 333 2 = nI (cmdsS T N 12 0 []).2.1 ∧ FP m m2 ∧ ((cmdsS T N 12 0 []).1 = true → AccOK (cmdsS T N 12 0 []).2.2 m2 ∧ m2.1 333 4 = nI (cmdsS T N 12 0 []).2.2.length ∧ (cmdsS T N 12 0 []).2.2.length ≤ 12)

set_option maxRecDepth 100000 in
set_option maxHeartbeats 1000000 in
theorem c_X2_parse {g : xG} (hG : GK g) {z : xE} (hE : GE g z) {m : Mem} {T : Nat → Int32} (hT : m.1 334 = T) {N : Nat} (hN : m.1 333 1 = nI N) (hN6 : N ≤ 60) : CC g yX2_parse (.code yX2_parse cX2_parse 2 (some .boolean)) 8 0 0 [.ref (ad g 333)] m (rI (fun v m2 => v = (if (cmdsS T N 12 0 []).1 = true then 1 else 0) ∧ prsM T N m m2)) noX := by
  refine CC.mk hG RX2 rfl (by decide +kernel) rfl (Nat.le_of_ble_eq_true rfl) (fun sz B hB hX => ?_)
  show V g B 0 0 _ (hp g m) sz 0 [some (.ref (ad g 333)), none] []
  have loop : ∀ q : Nat, q ≤ 12 → ∀ (sz : Nat) (M : Mem) (p : Nat) (acc : CS), acc.length = q → CT M N p → p ≤ N → M.1 333 4 = nI q → FP m M → AccOK acc M → cmdsS T N 12 0 [] = cmdsS T N (12 - q) p acc → V g B 0 0 (QM g B 0 0 (rI (fun v m2 => v = (if (cmdsS T N 12 0 []).1 = true then 1 else 0) ∧ prsM T N m m2)) noX) (hp g (M)) sz 12 [some (.ref (ad g 333)), some (.int (nI q))] [] := by
    refine loop_up (fun q hq ih => ?_)
    intro sz M p acc hal hC hpN h4 hFP hAcc he
    have hT2 : M.1 334 = T := (hFP.2.1 334 (by omega)).trans hT
    refine V.iload_n (pc := 12) hB dX2_parse_12 rfl ?_
    refine V.bipush (pc := 13) (v := 12) hB dX2_parse_13 rfl ?_
    refine V.icmp_ge (pc := 15) (tgt := 73) hB dX2_parse_15 (by decide) (fun c_15 => ?_) (fun c_15 => ?_)
    · have hq12 : q = 12 := by have := (nI_leI (a := 12) (by decide) (by omega)).mp c_15; omega
      have hfin : cmdsS T N 12 0 [] = (false, p, acc) := by rw [he, hq12]; rfl
      refine V.iconst (pc := 73) (v := 0) hB dX2_parse_73 rfl ?_
      refine V.retI (pc := 74) hB dX2_parse_74 rfl (rfl) (by omega) (by omega) ?_
      unfold prsM
      rw [hfin]
      exact ⟨rfl, hC.2.2.1, hFP, fun z => nomatch z⟩
    · have hlt : q < 12 := Nat.not_le.mp (fun z => c_15 ((nI_leI (a := 12) (by decide) (by omega)).mpr z))
      obtain ⟨f, hf⟩ : ∃ f, 12 - q = f + 1 := ⟨11 - q, by omega⟩
      obtain ⟨c1, c2, c3, c4, c5⟩ := CMne q
      refine V.aload_n (pc := 18) hB dX2_parse_18 rfl ?_
      refine V.aload_n (pc := 19) hB dX2_parse_19 rfl ?_
      refine V.get (pc := 20) hB fk_CText 3 wf_X2_24 dX2_parse_20 (by decide) (hp_at (ca_CText _)) rfl ?_
      refine V.iload_n (pc := 23) hB dX2_parse_23 rfl ?_
      refine V.aaldCmds (pc := 24) hB dX2_parse_24 (ix_nI hlt (by decide)) ?_
      refine V.cv (pc := 25) hB cw_X2_readCommand wm_X2_32 wi_X2_readCommand ws_X2_readCommand dX2_parse_25 (c_X2_readCommand hG hE hlt hT2 hC hpN) (hp_at (ca_CText _)) fk_CText rfl (by omega) (by decide) rfl (by exact Nat.le_of_ble_eq_true rfl) (by omega) (by omega) kN (kI (fun v_25 m_25 sz h_25 => ?_)) rfl
      rcases h_25 with ⟨h7, hv25, hP3, hK3, hG3⟩ | ⟨h7, hv25, hm25⟩
      rotate_left
      · subst hv25
        obtain rfl := hm25.symm
        refine V.if_ne (pc := 28) (tgt := 33) hB dX2_parse_28 (by decide) (fun c_28 => absurd rfl c_28) (fun c_28 => ?_)
        refine V.iconst (pc := 31) (v := 0) hB dX2_parse_31 rfl ?_
        refine V.retI (pc := 32) hB dX2_parse_32 rfl rfl (by omega) (by omega) ?_
        have hfin : cmdsS T N 12 0 [] = (false, p, acc) := by rw [he, hf]; show (if kOf T N p = 7 then _ else _) = _; rw [if_pos h7]
        unfold prsM
        rw [hfin]
        exact ⟨rfl, hC.2.2.1, hFP, fun z => nomatch z⟩
      subst hv25
      have hstep := cmds_step (f := f) (acc := acc) h7 rfl
      rw [← hf, ← he] at hstep
      have hF3 := hFP.trans (hG3.fp hlt)
      obtain ⟨r, hr⟩ : ∃ r, formS T N (frm (kOf T N p)) (p, []) = r := ⟨_, rfl⟩
      rw [hr] at hP3 hstep ⊢
      refine V.if_ne (pc := 28) (tgt := 33) hB dX2_parse_28 (by decide) (fun c_28 => ?_) (fun c_28 => ?_)
      · have hv := b01 c_28
        rw [if_pos hv] at hstep
        refine V.aload_n (pc := 33) hB dX2_parse_33 rfl ?_
        refine V.dup (pc := 34) hB dX2_parse_34 rfl ?_
        refine V.get (pc := 35) hB fk_CText 4 wf_X2_28 dX2_parse_35 (by decide) (hp_at (ca_CText _)) rfl ?_
        rw [hG3.2.2 4 (by decide), h4]
        refine V.iconst (pc := 38) (v := 1) hB dX2_parse_38 rfl ?_
        refine V.iadd (pc := 39) hB dX2_parse_39 ?_
        rw [nI1]
        refine V.p_CText_commandCount (pc := 40) hB wf_X2_28 dX2_parse_40 ?_
        have hC4 : CT (up m_25 333 4 (nI (q + 1))) N r.2.1 := ⟨by rw [up_slot _ _ _ (by decide)]; exact hP3.1.1, hP3.1.2.1, by rw [up_slot _ _ _ (by decide)]; exact hP3.1.2.2.1, hP3.1.2.2.2⟩
        have hF4 : FP m (up m_25 333 4 (nI (q + 1))) := hF3.trans ⟨rfl, fun k a => by rw [up_cell _ _ _ (by omega)], by rw [up_slot _ _ _ (by decide)]⟩
        have hT4 : (up m_25 333 4 (nI (q + 1))).1 334 = T := (hF4.2.1 334 (by omega)).trans hT
        have hA4 : AccOK (acc ++ [(kOf T N p, r.2.2)]) (up m_25 333 4 (nI (q + 1))) := by
          refine AccOK.snoc (AccOK.keep hAcc (q := q) (by omega) (fun i hi => ?_)) ?_ h7 (fun j a b => ?_)
          · have hne : CM i ≠ CM q ∧ CM i ≠ CM q + 1 ∧ CM i + 1 ≠ CM q ∧ CM i + 1 ≠ CM q + 1 ∧ CM i ≠ 333 ∧ CM i + 1 ≠ 333 := by unfold CM; omega
            rw [up_cell _ _ _ hne.2.2.2.2.1, up_cell _ _ _ hne.2.2.2.2.2]
            exact ⟨hG3.2.1 _ hne.2.2.2.2.1 hne.1 hne.2.1, hG3.2.1 _ hne.2.2.2.2.2 hne.2.2.1 hne.2.2.2.1⟩
          · rw [hal, up_cell _ _ _ c1]; exact hK3
          · rw [hal, up_cell _ _ _ c2]; exact hP3.2.2.2 j a b
        refine V.aload_n (pc := 43) hB dX2_parse_43 rfl ?_
        refine V.get (pc := 44) hB fk_CText 2 wf_X2_19 dX2_parse_44 (by decide) (hp_at (ca_CText _)) rfl ?_
        refine V.aload_n (pc := 47) hB dX2_parse_47 rfl ?_
        refine V.get (pc := 48) hB fk_CText 1 wf_X2_15 dX2_parse_48 (by decide) (hp_at (ca_CText _)) rfl ?_
        rw [hC4.2.2.1, hC4.1]
        refine V.icmp_lt (pc := 51) (tgt := 56) hB dX2_parse_51 (by decide) (fun c_51 => ?_) (fun c_51 => ?_)
        · have hle : ¬ N ≤ r.2.1 := fun z => absurd c_51 (Int32.not_lt.mpr ((nI_leI (a := N) (b := r.2.1) (by have := hC4.2.1; omega) (by have := hC4.2.2.2; omega)).mpr z))
          rw [if_neg hle] at hstep
          refine V.aload_n (pc := 56) hB dX2_parse_56 rfl ?_
          refine V.bipush (pc := 57) (v := 59) hB dX2_parse_57 rfl ?_
          refine V.cv (pc := 59) hB cw_X2_readSign wm_X2_36 wi_X2_readSign ws_X2_readSign dX2_parse_59 (c_X2_readSign hG hC4) (hp_at (ca_CText _)) fk_CText rfl (by omega) (by decide) rfl (by exact Nat.le_of_ble_eq_true rfl) (by omega) (by omega) kN (kI (fun v_59 m_59 sz h_59 => ?_)) rfl
          rw [hT4] at h_59
          obtain ⟨rfl, rfl⟩ := h_59
          refine V.if_ne (pc := 62) (tgt := 67) hB dX2_parse_62 (by decide) (fun c_62 => ?_) (fun c_62 => ?_)
          · have hv2 := b01 c_62
            rw [if_pos hv2] at hstep ⊢
            refine V.iinc (pc := 67) (v := nI (q + 1)) hB dX2_parse_67 rfl (nI_1 _) (by decide) rfl ?_
            refine V.goto (pc := 70) (tgt := 12) hB dX2_parse_70 (by decide) ?_
            refine ih hlt sz _ _ _ ?_ ⟨?_, hN6, up_same _ _ _ _, ?_⟩ ?_ ?_ (hF4.trans ⟨rfl, fun k a => by rw [up_cell _ _ _ (by omega)], by rw [up_slot _ _ _ (by decide)]⟩) (AccOK.keep hA4 (q := q + 1) (by simp [hal]) (fun i hi => ?_)) (by rw [hstep, show 12 - (q + 1) = f by omega])
            · simp [hal]
            · rw [up_slot _ _ _ (by decide)]; exact hC4.1
            · have := (stB_lt hv2).1; omega
            · exact (stB_lt hv2).1
            · rw [up_slot _ _ _ (by decide), up_same]
            · have hne : CM i ≠ 333 ∧ CM i + 1 ≠ 333 := by unfold CM; omega
              exact ⟨up_cell _ _ _ hne.1, up_cell _ _ _ hne.2⟩
          · have hv2 : ¬ stB T N r.2.1 59 = true := by rw [b00 c_62]; decide
            rw [if_neg hv2] at hstep ⊢
            refine V.iconst (pc := 65) (v := 0) hB dX2_parse_65 rfl ?_
            refine V.retI (pc := 66) hB dX2_parse_66 rfl (rfl) (by omega) (by omega) ?_
            unfold prsM
            rw [hstep]
            exact ⟨rfl, hC4.2.2.1, hF4, fun z => nomatch z⟩
        · have hle := (nI_leI (a := N) (b := r.2.1) (by have := hC4.2.1; omega) (by have := hC4.2.2.2; omega)).mp (Int32.not_lt.mp c_51)
          rw [if_pos hle] at hstep
          refine V.iconst (pc := 54) (v := 1) hB dX2_parse_54 rfl ?_
          refine V.retI (pc := 55) hB dX2_parse_55 rfl (rfl) (by omega) (by omega) ?_
          unfold prsM
          rw [hstep]
          exact ⟨rfl, hC4.2.2.1, hF4, fun _ => ⟨hA4, by rw [up_same]; simp [hal], by simp [hal]; omega⟩⟩
      · have hv := b00 c_28
        rw [if_neg (by rw [hv]; decide)] at hstep
        refine V.iconst (pc := 31) (v := 0) hB dX2_parse_31 rfl ?_
        refine V.retI (pc := 32) hB dX2_parse_32 rfl (rfl) (by omega) (by omega) ?_
        unfold prsM
        rw [hstep]
        exact ⟨rfl, hP3.1.2.2.1, hF3, fun z => nomatch z⟩
  refine V.aload_n (pc := 0) hB dX2_parse_0 rfl ?_
  refine V.iconst (pc := 1) (v := 0) hB dX2_parse_1 rfl ?_
  refine V.p_CText_position (pc := 2) hB wf_X2_19 dX2_parse_2 ?_
  refine V.aload_n (pc := 5) hB dX2_parse_5 rfl ?_
  refine V.iconst (pc := 6) (v := 0) hB dX2_parse_6 rfl ?_
  refine V.p_CText_commandCount (pc := 7) hB wf_X2_28 dX2_parse_7 ?_
  refine V.iconst (pc := 10) (v := 0) hB dX2_parse_10 rfl ?_
  refine V.istore_n (pc := 11) hB dX2_parse_11 (by decide) rfl ?_
  refine loop 0 (by omega) sz (up (up m 333 2 0) 333 4 0) 0 [] rfl ⟨?_, hN6, ?_, by omega⟩ (Nat.zero_le _) (up_same _ _ _ _) ⟨rfl, fun k a => ?_, ?_⟩ (fun i h => absurd h (Nat.not_lt_zero i)) rfl
  · rw [up_slot _ _ _ (by decide), up_slot _ _ _ (by decide)]; exact hN
  · rw [up_slot _ _ _ (by decide), up_same]; rfl
  · rw [up_cell _ _ _ (by omega), up_cell _ _ _ (by omega)]
  · rw [up_slot _ _ _ (by decide), up_slot _ _ _ (by decide)]

def cmdF (m : Mem) (i k : Nat) (n : Nat → Int32) : Int32 := match k with
  | 0 => placeF m i (n 0)
  | 1 => growF m i (n 0) (n 1) (n 2)
  | 2 => airF (n 0)
  | 3 => passF (n 0)
  | 4 => winF m i (n 0) (n 1)
  | 5 => openF m i (n 0)
  | _ => ringF m i (n 0) (n 1)
def cmdM (i k : Nat) (n : Nat → Int32) (m : Mem) : Mem := match k with
  | 0 => placeM i (n 0) m
  | 1 => growM i (n 0).toNatClampNeg (n 1) (n 2) m
  | 2 => up m (LA i) 2 (n 0)
  | 3 => hoursM i m (n 0).toNatClampNeg
  | 4 => insM i (nWn m i) (n 0) (n 1) m
  | 5 => rmM i (nWn m i) (n 0).toNatClampNeg m
  | _ => ringM i (n 0).toNatClampNeg (n 1).toNatClampNeg m
theorem cmdF_in (m : Mem) (i k : Nat) (n : Nat → Int32) : okF (cmdF m i k n) := by
  unfold cmdF
  split
  · exact placeF_in _ _ _
  · exact growF_in _ _ _ _ _
  · exact airF_in _
  · exact passF_in _
  · exact winF_in _ _ _ _
  · exact openF_in _ _ _
  · exact ringF_in _ _ _ _
theorem okF_nar {f : Int32} (h : okF f) : narrow .char (.int f) = .int f := by rcases h with h | h | h | h | h <;> subst h <;> rfl

set_option maxRecDepth 100000 in
set_option maxHeartbeats 1000000 in
theorem c_X6_commandFault {g : xG} (hG : GK g) {z : xE} (hE : GE g z) {i c : Nat} (hi : i < 11) (hc : c < 12) {m : Mem} (hL : LW m i) {k : Nat} (hk7 : k < 7) (hk0 : m.1 (CM c) 0 = nI k) : CC g yX6_commandFault (.code yX6_commandFault cX6_commandFault 3 (some .char)) 4 0 0 [.ref (ad g (LA i)), .ref (ad g (CM c))] m (rI (fun v m2 => v = cmdF m i k (m.1 (CM c + 1)) ∧ m2 = m)) noX := by
  refine CC.mk hG RX6 rfl (by decide +kernel) rfl (Nat.le_of_ble_eq_true rfl) (fun sz B hB hX => ?_)
  show V g B 0 0 _ (hp g m) sz 0 [some (.ref (ad g (LA i))), some (.ref (ad g (CM c))), none] []
  refine V.aload_n (pc := 0) hB dX6_commandFault_0 rfl ?_
  refine V.get (pc := 1) hB fk_Cmd 1 wf_X6_124 dX6_commandFault_1 (by decide) (hp_at (ca_Cmd (by omega) _)) rfl ?_
  refine V.astore_n (pc := 4) hB dX6_commandFault_4 (by decide) rfl ?_
  refine V.gets (pc := 5) hB hE.sw wf_X6_129 dX6_commandFault_5 ?_
  refine V.aload_n (pc := 8) hB dX6_commandFault_8 rfl ?_
  refine V.get (pc := 9) hB fk_Cmd 0 wf_X6_134 dX6_commandFault_9 (by decide) (hp_at (ca_Cmd hc _)) rfl ?_
  rw [hk0, nI_clamp (by omega)]
  refine V.cu (pc := 12) (C := "IceBells$Kind") hB cw_Jx29ce0_ordinal_8abf5 wm_X6_138 wsm_Jx29ce0_ordinal_8abf5 ⟨rfl, rfl⟩ wi_Jx29ce0_ordinal_8abf5 wse_Jx29ce0_ordinal_8abf5 dX6_commandFault_12 (c_Jx29ce0_ordinal_8abf5 hG hE hk7) (RC.so hB (hE.ob hk7)) (by omega) (by decide) rfl (by exact Nat.le_of_ble_eq_true rfl) (by omega) (by omega) (kI (fun v_12 m_12 sz h_12 => ?_)) rfl
  obtain ⟨rfl, hm_12⟩ := h_12
  obtain rfl := hm_12.symm
  refine V.sti (pc := 15) (v := .int (swm k)) hB hE.swT (ix_nI hk7 (by decide)).2 (by rw [nI_clamp (by omega)]) dX6_commandFault_15 ?_
  rcases (by omega : k = 0 ∨ k = 1 ∨ k = 2 ∨ k = 3 ∨ k = 4 ∨ k = 5 ∨ k = 6) with rfl | rfl | rfl | rfl | rfl | rfl | rfl
  · refine V.tsw_in (pc := 16) (tgt := 56) hB dX6_commandFault_16 (by decide) (by decide) rfl (by decide) ?_
    refine V.aload_n (pc := 56) hB dX6_commandFault_56 rfl ?_
    refine V.aload_n (pc := 57) hB dX6_commandFault_57 rfl ?_
    refine V.iconst (pc := 58) (v := 0) hB dX6_commandFault_58 rfl ?_
    refine V.ialdM (pc := 59) hB (ca_CmdN (by omega)) dX6_commandFault_59 ((ix_nI (q := 0) (N := 3) (by decide) (by decide) : ix 0 0 3)) ?_
    refine V.cv (pc := 60) hB cw_X6_placeFault wm_X6_143 wi_X6_placeFault ws_X6_placeFault dX6_commandFault_60 (c_X6_placeFault hG hi) (hp_at (ca_Land (by omega) _)) fk_Land rfl (by omega) (by decide) rfl (by exact Nat.le_of_ble_eq_true rfl) (by omega) (by omega) kN (kI (fun v_60 m_60 sz h_60 => ?_)) rfl
    obtain ⟨rfl, hm_60⟩ := h_60
    obtain rfl := hm_60.symm
    refine V.retI (pc := 63) hB dX6_commandFault_63 rfl (okF_nar (placeF_in _ _ _)) (by omega) (by omega) ?_
    exact ⟨rfl, rfl⟩
  · refine V.tsw_in (pc := 16) (tgt := 64) hB dX6_commandFault_16 (by decide) (by decide) rfl (by decide) ?_
    refine V.aload_n (pc := 64) hB dX6_commandFault_64 rfl ?_
    refine V.aload_n (pc := 65) hB dX6_commandFault_65 rfl ?_
    refine V.iconst (pc := 66) (v := 0) hB dX6_commandFault_66 rfl ?_
    refine V.ialdM (pc := 67) hB (ca_CmdN (by omega)) dX6_commandFault_67 ((ix_nI (q := 0) (N := 3) (by decide) (by decide) : ix 0 0 3)) ?_
    refine V.aload_n (pc := 68) hB dX6_commandFault_68 rfl ?_
    refine V.iconst (pc := 69) (v := 1) hB dX6_commandFault_69 rfl ?_
    refine V.ialdM (pc := 70) hB (ca_CmdN (by omega)) dX6_commandFault_70 ((ix_nI (q := 1) (N := 3) (by decide) (by decide) : ix 1 1 3)) ?_
    refine V.aload_n (pc := 71) hB dX6_commandFault_71 rfl ?_
    refine V.iconst (pc := 72) (v := 2) hB dX6_commandFault_72 rfl ?_
    refine V.ialdM (pc := 73) hB (ca_CmdN (by omega)) dX6_commandFault_73 ((ix_nI (q := 2) (N := 3) (by decide) (by decide) : ix 2 2 3)) ?_
    refine V.cv (pc := 74) hB cw_X6_growFault wm_X6_147 wi_X6_growFault ws_X6_growFault dX6_commandFault_74 (c_X6_growFault hG hi hL) (hp_at (ca_Land (by omega) _)) fk_Land rfl (by omega) (by decide) rfl (by exact Nat.le_of_ble_eq_true rfl) (by omega) (by omega) kN (kI (fun v_74 m_74 sz h_74 => ?_)) rfl
    obtain ⟨rfl, hm_74⟩ := h_74
    obtain rfl := hm_74.symm
    refine V.retI (pc := 77) hB dX6_commandFault_77 rfl (okF_nar (growF_in _ _ _ _ _)) (by omega) (by omega) ?_
    exact ⟨rfl, rfl⟩
  · refine V.tsw_in (pc := 16) (tgt := 78) hB dX6_commandFault_16 (by decide) (by decide) rfl (by decide) ?_
    refine V.aload_n (pc := 78) hB dX6_commandFault_78 rfl ?_
    refine V.aload_n (pc := 79) hB dX6_commandFault_79 rfl ?_
    refine V.iconst (pc := 80) (v := 0) hB dX6_commandFault_80 rfl ?_
    refine V.ialdM (pc := 81) hB (ca_CmdN (by omega)) dX6_commandFault_81 ((ix_nI (q := 0) (N := 3) (by decide) (by decide) : ix 0 0 3)) ?_
    refine V.cv (pc := 82) hB cw_X6_airFault wm_X6_151 wi_X6_airFault ws_X6_airFault dX6_commandFault_82 (c_X6_airFault hG hi) (hp_at (ca_Land (by omega) _)) fk_Land rfl (by omega) (by decide) rfl (by exact Nat.le_of_ble_eq_true rfl) (by omega) (by omega) kN (kI (fun v_82 m_82 sz h_82 => ?_)) rfl
    obtain ⟨rfl, hm_82⟩ := h_82
    obtain rfl := hm_82.symm
    refine V.retI (pc := 85) hB dX6_commandFault_85 rfl (okF_nar (airF_in _)) (by omega) (by omega) ?_
    exact ⟨rfl, rfl⟩
  · refine V.tsw_in (pc := 16) (tgt := 86) hB dX6_commandFault_16 (by decide) (by decide) rfl (by decide) ?_
    refine V.aload_n (pc := 86) hB dX6_commandFault_86 rfl ?_
    refine V.aload_n (pc := 87) hB dX6_commandFault_87 rfl ?_
    refine V.iconst (pc := 88) (v := 0) hB dX6_commandFault_88 rfl ?_
    refine V.ialdM (pc := 89) hB (ca_CmdN (by omega)) dX6_commandFault_89 ((ix_nI (q := 0) (N := 3) (by decide) (by decide) : ix 0 0 3)) ?_
    refine V.cv (pc := 90) hB cw_X6_passFault wm_X6_154 wi_X6_passFault ws_X6_passFault dX6_commandFault_90 (c_X6_passFault hG hi) (hp_at (ca_Land (by omega) _)) fk_Land rfl (by omega) (by decide) rfl (by exact Nat.le_of_ble_eq_true rfl) (by omega) (by omega) kN (kI (fun v_90 m_90 sz h_90 => ?_)) rfl
    obtain ⟨rfl, hm_90⟩ := h_90
    obtain rfl := hm_90.symm
    refine V.retI (pc := 93) hB dX6_commandFault_93 rfl (okF_nar (passF_in _)) (by omega) (by omega) ?_
    exact ⟨rfl, rfl⟩
  · refine V.tsw_in (pc := 16) (tgt := 94) hB dX6_commandFault_16 (by decide) (by decide) rfl (by decide) ?_
    refine V.aload_n (pc := 94) hB dX6_commandFault_94 rfl ?_
    refine V.aload_n (pc := 95) hB dX6_commandFault_95 rfl ?_
    refine V.iconst (pc := 96) (v := 0) hB dX6_commandFault_96 rfl ?_
    refine V.ialdM (pc := 97) hB (ca_CmdN (by omega)) dX6_commandFault_97 ((ix_nI (q := 0) (N := 3) (by decide) (by decide) : ix 0 0 3)) ?_
    refine V.aload_n (pc := 98) hB dX6_commandFault_98 rfl ?_
    refine V.iconst (pc := 99) (v := 1) hB dX6_commandFault_99 rfl ?_
    refine V.ialdM (pc := 100) hB (ca_CmdN (by omega)) dX6_commandFault_100 ((ix_nI (q := 1) (N := 3) (by decide) (by decide) : ix 1 1 3)) ?_
    refine V.cv (pc := 101) hB cw_X6_windowFault wm_X6_157 wi_X6_windowFault ws_X6_windowFault dX6_commandFault_101 (c_X6_windowFault hG hi hL) (hp_at (ca_Land (by omega) _)) fk_Land rfl (by omega) (by decide) rfl (by exact Nat.le_of_ble_eq_true rfl) (by omega) (by omega) kN (kI (fun v_101 m_101 sz h_101 => ?_)) rfl
    obtain ⟨rfl, hm_101⟩ := h_101
    obtain rfl := hm_101.symm
    refine V.retI (pc := 104) hB dX6_commandFault_104 rfl (okF_nar (winF_in _ _ _ _)) (by omega) (by omega) ?_
    exact ⟨rfl, rfl⟩
  · refine V.tsw_in (pc := 16) (tgt := 105) hB dX6_commandFault_16 (by decide) (by decide) rfl (by decide) ?_
    refine V.aload_n (pc := 105) hB dX6_commandFault_105 rfl ?_
    refine V.aload_n (pc := 106) hB dX6_commandFault_106 rfl ?_
    refine V.iconst (pc := 107) (v := 0) hB dX6_commandFault_107 rfl ?_
    refine V.ialdM (pc := 108) hB (ca_CmdN (by omega)) dX6_commandFault_108 ((ix_nI (q := 0) (N := 3) (by decide) (by decide) : ix 0 0 3)) ?_
    refine V.cv (pc := 109) hB cw_X6_openFault wm_X6_161 wi_X6_openFault ws_X6_openFault dX6_commandFault_109 (c_X6_openFault hG hi hL) (hp_at (ca_Land (by omega) _)) fk_Land rfl (by omega) (by decide) rfl (by exact Nat.le_of_ble_eq_true rfl) (by omega) (by omega) kN (kI (fun v_109 m_109 sz h_109 => ?_)) rfl
    obtain ⟨rfl, hm_109⟩ := h_109
    obtain rfl := hm_109.symm
    refine V.retI (pc := 112) hB dX6_commandFault_112 rfl (okF_nar (openF_in _ _ _)) (by omega) (by omega) ?_
    exact ⟨rfl, rfl⟩
  · refine V.tsw_out (pc := 16) (tgt := 113) hB dX6_commandFault_16 (Or.inl (by decide)) (by decide) ?_
    refine V.aload_n (pc := 113) hB dX6_commandFault_113 rfl ?_
    refine V.aload_n (pc := 114) hB dX6_commandFault_114 rfl ?_
    refine V.iconst (pc := 115) (v := 0) hB dX6_commandFault_115 rfl ?_
    refine V.ialdM (pc := 116) hB (ca_CmdN (by omega)) dX6_commandFault_116 ((ix_nI (q := 0) (N := 3) (by decide) (by decide) : ix 0 0 3)) ?_
    refine V.aload_n (pc := 117) hB dX6_commandFault_117 rfl ?_
    refine V.iconst (pc := 118) (v := 1) hB dX6_commandFault_118 rfl ?_
    refine V.ialdM (pc := 119) hB (ca_CmdN (by omega)) dX6_commandFault_119 ((ix_nI (q := 1) (N := 3) (by decide) (by decide) : ix 1 1 3)) ?_
    refine V.cv (pc := 120) hB cw_X6_ringFault wm_X6_164 wi_X6_ringFault ws_X6_ringFault dX6_commandFault_120 (c_X6_ringFault hG hi hL) (hp_at (ca_Land (by omega) _)) fk_Land rfl (by omega) (by decide) rfl (by exact Nat.le_of_ble_eq_true rfl) (by omega) (by omega) kN (kI (fun v_120 m_120 sz h_120 => ?_)) rfl
    obtain ⟨rfl, hm_120⟩ := h_120
    obtain rfl := hm_120.symm
    refine V.retI (pc := 123) hB dX6_commandFault_123 rfl (okF_nar (ringF_in _ _ _ _)) (by omega) (by omega) ?_
    exact ⟨rfl, rfl⟩

set_option maxRecDepth 100000 in
set_option maxHeartbeats 1000000 in
theorem c_X6_carryOut {g : xG} (hG : GK g) {z : xE} (hE : GE g z) {i c : Nat} (hi : i < 11) (hc : c < 12) {m : Mem} (hL : LW m i) {k : Nat} (hk7 : k < 7) (hk0 : m.1 (CM c) 0 = nI k) (hok : cmdF m i k (m.1 (CM c + 1)) = 45) : CC g yX6_carryOut (.code yX6_carryOut cX6_carryOut 3 none) 7 0 0 [.ref (ad g (LA i)), .ref (ad g (CM c))] m (rV (fun m2 => m2 = cmdM i k (m.1 (CM c + 1)) m)) noX := by
  refine CC.mk hG RX6 rfl (by decide +kernel) rfl (Nat.le_of_ble_eq_true rfl) (fun sz B hB hX => ?_)
  show V g B 0 0 _ (hp g m) sz 0 [some (.ref (ad g (LA i))), some (.ref (ad g (CM c))), none] []
  refine V.aload_n (pc := 0) hB dX6_carryOut_0 rfl ?_
  refine V.get (pc := 1) hB fk_Cmd 1 wf_X6_124 dX6_carryOut_1 (by decide) (hp_at (ca_Cmd (by omega) _)) rfl ?_
  refine V.astore_n (pc := 4) hB dX6_carryOut_4 (by decide) rfl ?_
  refine V.gets (pc := 5) hB hE.sw wf_X6_129 dX6_carryOut_5 ?_
  refine V.aload_n (pc := 8) hB dX6_carryOut_8 rfl ?_
  refine V.get (pc := 9) hB fk_Cmd 0 wf_X6_134 dX6_carryOut_9 (by decide) (hp_at (ca_Cmd hc _)) rfl ?_
  rw [hk0, nI_clamp (by omega)]
  refine V.cu (pc := 12) (C := "IceBells$Kind") hB cw_Jx29ce0_ordinal_8abf5 wm_X6_138 wsm_Jx29ce0_ordinal_8abf5 ⟨rfl, rfl⟩ wi_Jx29ce0_ordinal_8abf5 wse_Jx29ce0_ordinal_8abf5 dX6_carryOut_12 (c_Jx29ce0_ordinal_8abf5 hG hE hk7) (RC.so hB (hE.ob hk7)) (by omega) (by decide) rfl (by exact Nat.le_of_ble_eq_true rfl) (by omega) (by omega) (kI (fun v_12 m_12 sz h_12 => ?_)) rfl
  obtain ⟨rfl, hm_12⟩ := h_12
  obtain rfl := hm_12.symm
  refine V.sti (pc := 15) (v := .int (swm k)) hB hE.swT (ix_nI hk7 (by decide)).2 (by rw [nI_clamp (by omega)]) dX6_carryOut_15 ?_
  rcases (by omega : k = 0 ∨ k = 1 ∨ k = 2 ∨ k = 3 ∨ k = 4 ∨ k = 5 ∨ k = 6) with rfl | rfl | rfl | rfl | rfl | rfl | rfl
  · refine V.tsw_in (pc := 16) (tgt := 56) hB dX6_carryOut_16 (by decide) (by decide) rfl (by decide) ?_
    have hg := placeF_ok hL hok
    refine V.aload_n (pc := 56) hB dX6_carryOut_56 rfl ?_
    refine V.aload_n (pc := 57) hB dX6_carryOut_57 rfl ?_
    refine V.iconst (pc := 58) (v := 0) hB dX6_carryOut_58 rfl ?_
    refine V.ialdM (pc := 59) hB (ca_CmdN (by omega)) dX6_carryOut_59 ((ix_nI (q := 0) (N := 3) (by decide) (by decide) : ix 0 0 3)) ?_
    refine V.cv (pc := 60) hB cw_X6_placeLake wm_X6_167 wi_X6_placeLake ws_X6_placeLake dX6_carryOut_60 (c_X6_placeLake hG hi hL hg.1) (hp_at (ca_Land (by omega) _)) fk_Land rfl (by omega) (by decide) rfl (by exact Nat.le_of_ble_eq_true rfl) (by omega) (by omega) kN (kI (fun v_60 m_60 sz h_60 => ?_)) rfl
    obtain ⟨rfl, rfl⟩ := h_60
    refine V.pop (pc := 63) hB dX6_carryOut_63 rfl ?_
    refine V.goto (pc := 64) (tgt := 148) hB dX6_carryOut_64 (by decide) ?_
    refine V.retV (pc := 148) hB dX6_carryOut_148 rfl (by omega) (by omega) ?_
    rfl
  · refine V.tsw_in (pc := 16) (tgt := 67) hB dX6_carryOut_16 (by decide) (by decide) rfl (by decide) ?_
    have hg := growF_ok hL hok
    obtain ⟨j, hxe, hj, hjc⟩ := idx_j hg.1 (by have := hL.nl5; omega)
    rw [hjc] at hg
    refine V.aload_n (pc := 67) hB dX6_carryOut_67 rfl ?_
    refine V.aload_n (pc := 68) hB dX6_carryOut_68 rfl ?_
    refine V.iconst (pc := 69) (v := 0) hB dX6_carryOut_69 rfl ?_
    refine V.ialdM (pc := 70) hB (ca_CmdN (by omega)) dX6_carryOut_70 ((ix_nI (q := 0) (N := 3) (by decide) (by decide) : ix 0 0 3)) ?_
    refine V.aload_n (pc := 71) hB dX6_carryOut_71 rfl ?_
    refine V.iconst (pc := 72) (v := 1) hB dX6_carryOut_72 rfl ?_
    refine V.ialdM (pc := 73) hB (ca_CmdN (by omega)) dX6_carryOut_73 ((ix_nI (q := 1) (N := 3) (by decide) (by decide) : ix 1 1 3)) ?_
    refine V.aload_n (pc := 74) hB dX6_carryOut_74 rfl ?_
    refine V.iconst (pc := 75) (v := 2) hB dX6_carryOut_75 rfl ?_
    refine V.ialdM (pc := 76) hB (ca_CmdN (by omega)) dX6_carryOut_76 ((ix_nI (q := 2) (N := 3) (by decide) (by decide) : ix 2 2 3)) ?_
    rw [hxe]
    refine V.cv (pc := 77) hB cw_X6_growLayer wm_X6_170 wi_X6_growLayer ws_X6_growLayer dX6_carryOut_77 (c_X6_growLayer hG hi hL hj hg.2.2.1) (hp_at (ca_Land (by omega) _)) fk_Land rfl (by omega) (by decide) rfl (by exact Nat.le_of_ble_eq_true rfl) (by omega) (by omega) kN (kI (fun v_77 m_77 sz h_77 => ?_)) rfl
    obtain ⟨rfl, h_77⟩ := h_77
    rw [← hjc] at h_77
    subst h_77
    refine V.pop (pc := 80) hB dX6_carryOut_80 rfl ?_
    refine V.goto (pc := 81) (tgt := 148) hB dX6_carryOut_81 (by decide) ?_
    refine V.retV (pc := 148) hB dX6_carryOut_148 rfl (by omega) (by omega) ?_
    rfl
  · refine V.tsw_in (pc := 16) (tgt := 84) hB dX6_carryOut_16 (by decide) (by decide) rfl (by decide) ?_
    refine V.aload_n (pc := 84) hB dX6_carryOut_84 rfl ?_
    refine V.aload_n (pc := 85) hB dX6_carryOut_85 rfl ?_
    refine V.iconst (pc := 86) (v := 0) hB dX6_carryOut_86 rfl ?_
    refine V.ialdM (pc := 87) hB (ca_CmdN (by omega)) dX6_carryOut_87 ((ix_nI (q := 0) (N := 3) (by decide) (by decide) : ix 0 0 3)) ?_
    refine V.cv (pc := 88) hB cw_X6_changeAir wm_X6_174 wi_X6_changeAir ws_X6_changeAir dX6_carryOut_88 (c_X6_changeAir hG hi) (hp_at (ca_Land (by omega) _)) fk_Land rfl (by omega) (by decide) rfl (by exact Nat.le_of_ble_eq_true rfl) (by omega) (by omega) kN (kI (fun v_88 m_88 sz h_88 => ?_)) rfl
    obtain ⟨rfl, rfl⟩ := h_88
    refine V.pop (pc := 91) hB dX6_carryOut_91 rfl ?_
    refine V.goto (pc := 92) (tgt := 148) hB dX6_carryOut_92 (by decide) ?_
    refine V.retV (pc := 148) hB dX6_carryOut_148 rfl (by omega) (by omega) ?_
    rfl
  · refine V.tsw_in (pc := 16) (tgt := 95) hB dX6_carryOut_16 (by decide) (by decide) rfl (by decide) ?_
    have hg := passF_ok hok
    refine V.aload_n (pc := 95) hB dX6_carryOut_95 rfl ?_
    refine V.aload_n (pc := 96) hB dX6_carryOut_96 rfl ?_
    refine V.iconst (pc := 97) (v := 0) hB dX6_carryOut_97 rfl ?_
    refine V.ialdM (pc := 98) hB (ca_CmdN (by omega)) dX6_carryOut_98 ((ix_nI (q := 0) (N := 3) (by decide) (by decide) : ix 0 0 3)) ?_
    rw [hg.1]
    refine V.cv (pc := 99) hB cw_X6_letHoursPass wm_X6_177 wi_X6_letHoursPass ws_X6_letHoursPass dX6_carryOut_99 (c_X6_letHoursPass hG hi hL (by omega)) (hp_at (ca_Land (by omega) _)) fk_Land rfl (by omega) (by decide) rfl (by exact Nat.le_of_ble_eq_true rfl) (by omega) (by omega) kN (kI (fun v_99 m_99 sz h_99 => ?_)) rfl
    obtain ⟨rfl, rfl⟩ := h_99
    refine V.pop (pc := 102) hB dX6_carryOut_102 rfl ?_
    refine V.goto (pc := 103) (tgt := 148) hB dX6_carryOut_103 (by decide) ?_
    refine V.retV (pc := 148) hB dX6_carryOut_148 rfl (by omega) (by omega) ?_
    rfl
  · refine V.tsw_in (pc := 16) (tgt := 106) hB dX6_carryOut_16 (by decide) (by decide) rfl (by decide) ?_
    have hg := winF_ok hL hok
    refine V.aload_n (pc := 106) hB dX6_carryOut_106 rfl ?_
    refine V.get (pc := 107) hB fk_Land 6 wf_X6_36 dX6_carryOut_107 (by decide) (hp_at (ca_Land (by omega) _)) rfl ?_
    refine V.aload_n (pc := 110) hB dX6_carryOut_110 rfl ?_
    refine V.iconst (pc := 111) (v := 0) hB dX6_carryOut_111 rfl ?_
    refine V.ialdM (pc := 112) hB (ca_CmdN (by omega)) dX6_carryOut_112 ((ix_nI (q := 0) (N := 3) (by decide) (by decide) : ix 0 0 3)) ?_
    refine V.aload_n (pc := 113) hB dX6_carryOut_113 rfl ?_
    refine V.iconst (pc := 114) (v := 1) hB dX6_carryOut_114 rfl ?_
    refine V.ialdM (pc := 115) hB (ca_CmdN (by omega)) dX6_carryOut_115 ((ix_nI (q := 1) (N := 3) (by decide) (by decide) : ix 1 1 3)) ?_
    refine V.cv (pc := 116) hB cw_X8_insert wm_X6_180 wi_X8_insert ws_X8_insert dX6_carryOut_116 (c_X8_insert hG hi hL.wr hg) (hp_at (ca_Win (by omega) _)) fk_Win rfl (by omega) (by decide) rfl (by exact Nat.le_of_ble_eq_true rfl) (by omega) (by omega) kN (kI (fun v_116 m_116 sz h_116 => ?_)) rfl
    obtain ⟨rfl, rfl⟩ := h_116
    refine V.pop (pc := 119) hB dX6_carryOut_119 rfl ?_
    refine V.goto (pc := 120) (tgt := 148) hB dX6_carryOut_120 (by decide) ?_
    refine V.retV (pc := 148) hB dX6_carryOut_148 rfl (by omega) (by omega) ?_
    rfl
  · refine V.tsw_in (pc := 16) (tgt := 123) hB dX6_carryOut_16 (by decide) (by decide) rfl (by decide) ?_
    have hg := openF_ok hok
    obtain ⟨j, hxe, hj, hjc⟩ := idx_j hg (by have := hL.wr.2; omega)
    refine V.aload_n (pc := 123) hB dX6_carryOut_123 rfl ?_
    refine V.get (pc := 124) hB fk_Land 6 wf_X6_36 dX6_carryOut_124 (by decide) (hp_at (ca_Land (by omega) _)) rfl ?_
    refine V.aload_n (pc := 127) hB dX6_carryOut_127 rfl ?_
    refine V.iconst (pc := 128) (v := 0) hB dX6_carryOut_128 rfl ?_
    refine V.ialdM (pc := 129) hB (ca_CmdN (by omega)) dX6_carryOut_129 ((ix_nI (q := 0) (N := 3) (by decide) (by decide) : ix 0 0 3)) ?_
    rw [hxe]
    refine V.cv (pc := 130) hB cw_X8_removeAt wm_X6_183 wi_X8_removeAt ws_X8_removeAt dX6_carryOut_130 (c_X8_removeAt hG hi hL.wr hj) (hp_at (ca_Win (by omega) _)) fk_Win rfl (by omega) (by decide) rfl (by exact Nat.le_of_ble_eq_true rfl) (by omega) (by omega) kN (kI (fun v_130 m_130 sz h_130 => ?_)) rfl
    obtain ⟨rfl, h_130⟩ := h_130
    rw [← hjc] at h_130
    subst h_130
    refine V.pop (pc := 133) hB dX6_carryOut_133 rfl ?_
    refine V.goto (pc := 134) (tgt := 148) hB dX6_carryOut_134 (by decide) ?_
    refine V.retV (pc := 148) hB dX6_carryOut_148 rfl (by omega) (by omega) ?_
    rfl
  · refine V.tsw_out (pc := 16) (tgt := 137) hB dX6_carryOut_16 (Or.inl (by decide)) (by decide) ?_
    have hg := ringF_ok hok
    obtain ⟨j, hxe, hj, hjc⟩ := idx_j hg.1.1 (by have := hL.nl5; omega)
    rw [hjc] at hg
    obtain ⟨y, hye, hy, hyc⟩ := idx_j hg.1.2 (by have := (hL.ln hj).2; omega)
    have hy8 := (hL.ln hj).2
    refine V.aload_n (pc := 137) hB dX6_carryOut_137 rfl ?_
    refine V.aload_n (pc := 138) hB dX6_carryOut_138 rfl ?_
    refine V.iconst (pc := 139) (v := 0) hB dX6_carryOut_139 rfl ?_
    refine V.ialdM (pc := 140) hB (ca_CmdN (by omega)) dX6_carryOut_140 ((ix_nI (q := 0) (N := 3) (by decide) (by decide) : ix 0 0 3)) ?_
    refine V.aload_n (pc := 141) hB dX6_carryOut_141 rfl ?_
    refine V.iconst (pc := 142) (v := 1) hB dX6_carryOut_142 rfl ?_
    refine V.ialdM (pc := 143) hB (ca_CmdN (by omega)) dX6_carryOut_143 ((ix_nI (q := 1) (N := 3) (by decide) (by decide) : ix 1 1 3)) ?_
    rw [hxe, hye]
    refine V.cv (pc := 144) hB cw_X6_ring wm_X6_186 wi_X6_ring ws_X6_ring dX6_carryOut_144 (c_X6_ring hG hi hL hj (y := y) (by omega)) (hp_at (ca_Land (by omega) _)) fk_Land rfl (by omega) (by decide) rfl (by exact Nat.le_of_ble_eq_true rfl) (by omega) (by omega) kN (kI (fun v_144 m_144 sz h_144 => ?_)) rfl
    obtain ⟨rfl, h_144⟩ := h_144
    rw [← hjc, ← hyc] at h_144
    subst h_144
    refine V.pop (pc := 147) hB dX6_carryOut_147 rfl ?_
    refine V.retV (pc := 148) hB dX6_carryOut_148 rfl (by omega) (by omega) ?_
    rfl
