/-! append, run: the commands are tried on the trial landscape one by one -/
/-- the text's length -/
def tN (m : Mem) : Nat := (m.1 333 1).toNatClampNeg
def TK (m : Mem) : Prop := m.1 333 1 = nI (tN m) ∧ tN m ≤ 60 ∧ ∃ p, m.1 333 2 = nI p ∧ p ≤ 60
theorem TK.ct {m : Mem} (h : TK m) : ∃ p, CT m (tN m) p := by obtain ⟨h1, h2, p, h3, h4⟩ := h; exact ⟨p, h1, h2, h3, h4⟩

set_option maxRecDepth 100000 in
set_option maxHeartbeats 1000000 in
theorem c_X9_append {g : xG} (hG : GK g) {m : Mem} (hT : TK m) {c : Int32} (hch : fits .char (.int c) = true) : CC g yX9_append (.code yX9_append cX9_append 2 (some .int)) 2 1 6 [.ref (ad g 0), .int c] m (rI (fun v m2 => (32 ≤ c ∧ c ≤ 126) ∧ tN m < 60 ∧ v = nI (tN m + 1) ∧ m2 = up (up m 334 (tN m) c) 333 1 (nI (tN m + 1)))) (fun E m2 => (E = "java/lang/IllegalArgumentException" ∧ ¬ (32 ≤ c ∧ c ≤ 126) ∧ m2 = m) ∨ (E = "java/lang/IllegalStateException" ∧ (32 ≤ c ∧ c ≤ 126) ∧ tN m = 60 ∧ m2 = m)) := by
  obtain ⟨p, hCT⟩ := hT.ct
  have hN60 := hCT.2.1
  refine CC.mkX hG RX9 rfl (by decide +kernel) rfl (Nat.le_of_ble_eq_true rfl) (fun sz B hB hX hS => ?_)
  show V g B 0 0 _ (hp g m) sz 0 [some (.ref (ad g 0)), some (.int c)] []
  refine V.iload_n (pc := 0) hB dX9_append_0 rfl ?_
  refine V.bipush (pc := 1) (v := 32) hB dX9_append_1 rfl ?_
  refine V.icmp_lt (pc := 3) (tgt := 12) hB dX9_append_3 (by decide) (fun c_3 => ?_) (fun c_3 => ?_)
  · have hno : ¬ (32 ≤ c ∧ c ≤ 126) := fun z => absurd c_3 (Int32.not_lt.mpr z.1)
    refine V.throwSW (pc := 12) hB hX hS tw_254_256 dX9_append_12 dX9_append_15 dX9_append_16 dX9_append_19 dX9_append_22 (by omega) (by exact Nat.le_of_ble_eq_true rfl) (by omega) (by omega) (fun _ => ⟨_, rfl, ?_⟩)
    exact Or.inl ⟨rfl, hno, rfl⟩
  · have h32 := Int32.not_lt.mp c_3
    refine V.iload_n (pc := 6) hB dX9_append_6 rfl ?_
    refine V.bipush (pc := 7) (v := 126) hB dX9_append_7 rfl ?_
    refine V.icmp_le (pc := 9) (tgt := 23) hB dX9_append_9 (by decide) (fun c_9 => ?_) (fun c_9 => ?_)
    · refine V.aload_n (pc := 23) hB dX9_append_23 rfl ?_
      refine V.get (pc := 24) hB fk_Bells 5 wf_X9_36 dX9_append_24 (by decide) (hp_at (ca_Bells _)) rfl ?_
      refine V.cv (pc := 27) hB cw_X2_isFull wm_X9_259 wi_X2_isFull ws_X2_isFull dX9_append_27 (c_X2_isFull hG hCT) (hp_at (ca_CText _)) fk_CText rfl (by omega) (by decide) rfl (by exact Nat.le_of_ble_eq_true rfl) (by omega) (by omega) kN (kI (fun v_27 m_27 sz h_27 => ?_)) rfl
      obtain ⟨rfl, hm_27⟩ := h_27
      obtain rfl := hm_27.symm
      refine V.if_eq (pc := 30) (tgt := 44) hB dX9_append_30 (by decide) (fun c_30 => ?_) (fun c_30 => ?_)
      · have hfull : ¬ 60 ≤ tN m := fun z => by rw [if_pos z] at c_30; exact absurd c_30 (by decide)
        refine V.aload_n (pc := 44) hB dX9_append_44 rfl ?_
        refine V.get (pc := 45) hB fk_Bells 5 wf_X9_36 dX9_append_45 (by decide) (hp_at (ca_Bells _)) rfl ?_
        refine V.iload_n (pc := 48) hB dX9_append_48 rfl ?_
        refine V.cv (pc := 49) hB cw_X2_add wm_X9_268 wi_X2_add ws_X2_add dX9_append_49 (c_X2_add hG hCT (by omega) hch) (hp_at (ca_CText _)) fk_CText rfl (by omega) (by decide) rfl (by exact Nat.le_of_ble_eq_true rfl) (by omega) (by omega) kN (kI (fun v_49 m_49 sz h_49 => ?_)) rfl
        obtain ⟨rfl, rfl⟩ := h_49
        refine V.retI (pc := 52) hB dX9_append_52 rfl (rfl) (by omega) (by omega) ?_
        exact ⟨⟨h32, c_9⟩, by omega, rfl, rfl⟩
      · have hfull : 60 ≤ tN m := Decidable.byContradiction (fun z => c_30 (if_neg z))
        refine V.throwSW (pc := 33) hB hX hS tw_263_265 dX9_append_33 dX9_append_36 dX9_append_37 dX9_append_40 dX9_append_43 (by omega) (by exact Nat.le_of_ble_eq_true rfl) (by omega) (by omega) (fun _ => ⟨_, rfl, ?_⟩)
        exact Or.inr ⟨rfl, ⟨h32, c_9⟩, by omega, rfl⟩
    · have hno : ¬ (32 ≤ c ∧ c ≤ 126) := fun z => c_9 z.2
      refine V.throwSW (pc := 12) hB hX hS tw_254_256 dX9_append_12 dX9_append_15 dX9_append_16 dX9_append_19 dX9_append_22 (by omega) (by exact Nat.le_of_ble_eq_true rfl) (by omega) (by omega) (fun _ => ⟨_, rfl, ?_⟩)
      exact Or.inl ⟨rfl, hno, rfl⟩

theorem okF_fits {f : Int32} (h : okF f) : fits .char (.int f) = true := by rcases h with h | h | h | h | h <;> subst h <;> rfl
theorem cmdM_LW {m : Mem} {i : Nat} {n : Nat → Int32} (hL : LW m i) : (k : Nat) → cmdF m i k n = 45 → LW (cmdM i k n m) i
  | 0, h => (place_LW hL (placeF_ok hL h).1).1
  | 1, h => by
    have hg := growF_ok hL h
    obtain ⟨j, hxe, hj, hjc⟩ := idx_j hg.1 (by have := hL.nl5; omega)
    show LW (growM i (n 0).toNatClampNeg (n 1) (n 2) m) i
    rw [hjc] at hg ⊢
    exact (grow_LW hL hj hg.2.2.1).1
  | 2, _ => (hL.own (up_slot _ _ _ (by decide)) (fun o h1 h2 => up_cell _ _ _ (by omega))).1
  | 3, _ => (hours_LW hL _).1
  | 4, h => (ins_LW hL (winF_ok hL h)).1
  | 5, _ => (rm_LW hL hL.wr.2).1
  | _ + 6, _ => (ring_LW hL).1
theorem cmdM_cell {m : Mem} {i : Nat} {n : Nat → Int32} (hL : LW m i) {c : Nat} (hc : c < LA i ∨ LA i + 30 ≤ c) : (k : Nat) → cmdF m i k n = 45 → (cmdM i k n m).1 c = m.1 c
  | 0, h => by
    have h1 := LK_in (i := i) (j := nLk m i) (placeF_ok hL h).1
    exact placeM_cell (by omega) (by omega)
  | 1, h => by
    have hg := growF_ok hL h
    obtain ⟨j, hxe, hj, hjc⟩ := idx_j hg.1 (by have := hL.nl5; omega)
    show (growM i (n 0).toNatClampNeg (n 1) (n 2) m).1 c = m.1 c
    rw [hjc]
    have h1 := LK_in (i := i) (j := j) (by have := hL.nl5; omega)
    exact growM_cell (by omega) (by omega)
  | 2, _ => up_cell _ _ _ (by omega)
  | 3, _ => hoursM_cell hL hc _
  | 4, _ => insM_cell (by omega)
  | 5, _ => rmM_cell (by omega)
  | _ + 6, _ => recM_cell (by omega)
def kdM (M : Mem) (q : Nat) : Nat := (M.1 (CM q) 0).toNatClampNeg
/-- the trial landscape at the beginning; after q commands -/
def trM (M : Mem) : Mem := cpLand 1 0 (up M 333 1 0)
def runM (M : Mem) : Nat → Mem
  | 0 => trM M
  | q + 1 => cmdM 1 (kdM M q) (M.1 (CM q + 1)) (runM M q)
def okM (M : Mem) (q : Nat) : Prop := cmdF (runM M q) 1 (kdM M q) (M.1 (CM q + 1)) = 45
theorem LA_1 : LA 1 = 31 := rfl
theorem CM_ge (q : Nat) : 336 ≤ CM q := by unfold CM; omega
theorem run_ok {M : Mem} (h : LW (trM M) 1) : ∀ q, (∀ q2, q2 < q → okM M q2) → LW (runM M q) 1 ∧ ∀ c, (c < 31 ∨ 61 ≤ c) → (runM M q).1 c = (trM M).1 c
  | 0, _ => ⟨h, fun _ _ => rfl⟩
  | q + 1, hq => by
    obtain ⟨h1, h2⟩ := run_ok h q (fun q2 z => hq q2 (by omega))
    have hok := hq q (by omega)
    exact ⟨cmdM_LW h1 _ hok, fun c hc => (cmdM_cell h1 (by rw [LA_1]; omega) _ hok).trans (h2 c hc)⟩
abbrev runR (m : Mem) : Bool × Nat × CS := cmdsS (m.1 334) (tN m) 12 0 []
def runP (m : Mem) (v : Int32) (m2 : Mem) : Prop := (runR m).1 = true ∧ ∃ M, prsM (m.1 334) (tN m) m M ∧ (∀ q, q < (runR m).2.2.length → okM M q) ∧ v = nI (runR m).2.2.length ∧ m2 = cpLand 0 1 (rem (runM M (runR m).2.2.length))
def runX (m : Mem) (E : String) (m2 : Mem) : Prop := (E = "java/lang/IllegalArgumentException" ∧ (runR m).1 = false ∧ ∃ M, prsM (m.1 334) (tN m) m M ∧ m2 = up (up M 333 1 0) 0 6 (nI (runR m).2.1)) ∨
  (E = "java/lang/IllegalStateException" ∧ (runR m).1 = true ∧ ∃ M q, prsM (m.1 334) (tN m) m M ∧ q < (runR m).2.2.length ∧ (∀ q2, q2 < q → okM M q2) ∧ ¬ okM M q ∧ m2 = up (up (runM M q) 0 7 (nI q)) 0 8 (cmdF (runM M q) 1 (kdM M q) (M.1 (CM q + 1))))

set_option maxRecDepth 100000 in
set_option maxHeartbeats 1000000 in
theorem c_X9_run {g : xG} (hG : GK g) {z : xE} (hE : GE g z) {m : Mem} (hI : CI m) (hTK : TK m) : CC g yX9_run (.code yX9_run cX9_run 6 (some .int)) 9 1 6 [.ref (ad g 0)] m (rI (runP m)) (runX m) := by
  refine CC.mkX hG RX9 rfl (by decide +kernel) rfl (Nat.le_of_ble_eq_true rfl) (fun sz B hB hX hS => ?_)
  show V g B 0 0 _ (hp g m) sz 0 [some (.ref (ad g 0)), none, none, none, none, none] []
  have loop : ∀ (M : Mem) (_ : Nat) (_ _ : Option Value), prsM (m.1 334) (tN m) m M → (runR m).1 = true → AccOK (runR m).2.2 M → (runR m).2.2.length ≤ 12 → LW (trM M) 1 → (∀ c, (c < 31 ∨ 61 ≤ c) → (trM M).1 c = (up M 333 1 0).1 c) → ∀ q : Nat, q ≤ (runR m).2.2.length → ∀ (sz : Nat) (x4 x5 : Option Value), (∀ q2, q2 < q → okM M q2) → V g B 0 0 (QM g B 1 6 (rI (runP m)) (runX m)) (hp g (runM M q)) sz 62 [some (.ref (ad g 0)), some (.int (if (runR m).1 = true then 1 else 0)), some (.int (nI (runR m).2.2.length)), some (.int (nI q)), x4, x5] [] := by
    intro M _ _ _ hp hv hAcc h12 hL1 htc
    refine loop_up (fun q hq ih => ?_)
    intro sz x4 x5 hoks
    obtain ⟨hLq, hcq⟩ := run_ok hL1 q hoks
    have hcq2 : ∀ c, (c < 31 ∨ 61 ≤ c) → c ≠ 333 → (runM M q).1 c = M.1 c := fun c a b => (hcq c a).trans ((htc c a).trans (up_cell _ _ _ b))
    refine V.iload_n (pc := 62) hB dX9_run_62 rfl ?_
    refine V.iload_n (pc := 63) hB dX9_run_63 rfl ?_
    refine V.icmp_ge (pc := 64) (tgt := 133) hB dX9_run_64 (by decide) (fun c_64 => ?_) (fun c_64 => ?_)
    · have hqn : q = (runR m).2.2.length := by have := (nI_leI (by omega) (by omega)).mp c_64; omega
      have hAg : Agr m (runM M q) 0 := fun o ho => by rw [LA_0, hcq2 _ (by omega) (by omega)]; exact hp.2.1.2.1 _ (by omega)
      have hI4 : CI (runM M q) := hI.keep ((hAg.lw hI.1).1) (fun k hk => by rw [hcq2 _ (by omega) (by omega)]; exact hp.2.1.2.1 _ (by omega))
      refine V.aload_n (pc := 133) hB dX9_run_133 rfl ?_
      refine V.get (pc := 134) hB fk_Bells 4 wf_X9_29 dX9_run_134 (by decide) (hp_at (ca_Bells _)) rfl ?_
      refine V.aload_n (pc := 137) hB dX9_run_137 rfl ?_
      refine V.get (pc := 138) hB fk_Bells 0 wf_X9_12 dX9_run_138 (by decide) (hp_at (ca_Bells _)) rfl ?_
      refine V.cv (pc := 141) hB cw_X3_remember wm_X9_70 wi_X3_remember ws_X3_remember dX9_run_141 (c_X3_remember hG (i := 0) (by omega) hI4.2.1 hI4.1) (hp_at (ca_Hist _)) fk_Hist rfl (by omega) (by decide) rfl (by exact Nat.le_of_ble_eq_true rfl) (by omega) (by omega) kN (kV (fun m_141 sz h_141 => ?_)) rfl
      obtain rfl : m_141 = rem _ := h_141
      have hL5 := ((rem_agr hI4.1 (i := 1) (by omega)).lw hLq).1
      refine V.aload_n (pc := 144) hB dX9_run_144 rfl ?_
      refine V.get (pc := 145) hB fk_Bells 0 wf_X9_12 dX9_run_145 (by decide) (hp_at (ca_Bells _)) rfl ?_
      refine V.aload_n (pc := 148) hB dX9_run_148 rfl ?_
      refine V.get (pc := 149) hB fk_Bells 1 wf_X9_16 dX9_run_149 (by decide) (hp_at (ca_Bells _)) rfl ?_
      refine V.cv (pc := 152) hB cw_X6_copyFrom wm_X9_149 wi_X6_copyFrom ws_X6_copyFrom dX9_run_152 (c_X6_copyFrom hG (i := 0) (i2 := 1) (by omega) (by omega) (by decide) hL5) (hp_at (ca_Land (by omega) _)) fk_Land rfl (by omega) (by decide) rfl (by exact Nat.le_of_ble_eq_true rfl) (by omega) (by omega) kN (kV (fun m_152 sz h_152 => ?_)) rfl
      subst h_152
      refine V.iload_n (pc := 155) hB dX9_run_155 rfl ?_
      refine V.retI (pc := 156) hB dX9_run_156 rfl (rfl) (by omega) (by omega) ?_
      rw [hqn] at hoks ⊢
      exact ⟨hv, M, hp, hoks, rfl, rfl⟩
    · have hlt : q < (runR m).2.2.length := Nat.not_le.mp (fun z => c_64 ((nI_leI (by omega) (by omega)).mpr z))
      obtain ⟨hk1, hk2, hk3⟩ := hAcc q hlt
      have hge := CM_ge q
      have hkq : kdM M q = ((runR m).2.2.getD q (0, [])).1 := by unfold kdM; rw [hk1, nI_clamp (by omega)]
      have hk0 : (runM M q).1 (CM q) 0 = nI (kdM M q) := by rw [hcq2 _ (by omega) (by omega), hkq]; exact hk1
      have hnr : (runM M q).1 (CM q + 1) = M.1 (CM q + 1) := hcq2 _ (by omega) (by omega)
      have hc12 : q < 12 := by omega
      refine V.aload_n (pc := 67) hB dX9_run_67 rfl ?_
      refine V.get (pc := 68) hB fk_Bells 5 wf_X9_36 dX9_run_68 (by decide) (hp_at (ca_Bells _)) rfl ?_
      refine V.get (pc := 71) hB fk_CText 3 wf_X9_286 dX9_run_71 (by decide) (hp_at (ca_CText _)) rfl ?_
      refine V.iload_n (pc := 74) hB dX9_run_74 rfl ?_
      refine V.aaldCmds (pc := 75) hB dX9_run_75 (ix_nI hc12 (by decide)) ?_
      refine V.astore (pc := 76) hB dX9_run_76 (by decide) rfl ?_
      refine V.aload_n (pc := 78) hB dX9_run_78 rfl ?_
      refine V.get (pc := 79) hB fk_Bells 1 wf_X9_16 dX9_run_79 (by decide) (hp_at (ca_Bells _)) rfl ?_
      refine V.aload (pc := 82) hB dX9_run_82 rfl ?_
      refine V.cv (pc := 84) hB cw_X6_commandFault wm_X9_290 wi_X6_commandFault ws_X6_commandFault dX9_run_84 (c_X6_commandFault hG hE (i := 1) (c := q) (by omega) hc12 hLq (by rw [hkq]; exact hk2) hk0) (hp_at (ca_Land (by omega) _)) fk_Land rfl (by omega) (by decide) rfl (by exact Nat.le_of_ble_eq_true rfl) (by omega) (by omega) kN (kI (fun v_84 m_84 sz h_84 => ?_)) rfl
      rw [hnr] at h_84
      obtain ⟨rfl, hm_84⟩ := h_84
      obtain rfl := hm_84.symm
      refine V.istore (pc := 87) hB dX9_run_87 (by decide) rfl ?_
      refine V.iload (pc := 89) hB dX9_run_89 rfl ?_
      refine V.bipush (pc := 91) (v := 45) hB dX9_run_91 rfl ?_
      refine V.icmp_eq (pc := 93) (tgt := 118) hB dX9_run_93 (by decide) (fun c_93 => ?_) (fun c_93 => ?_)
      · have hok : okM M q := c_93
        refine V.aload_n (pc := 118) hB dX9_run_118 rfl ?_
        refine V.get (pc := 119) hB fk_Bells 1 wf_X9_16 dX9_run_119 (by decide) (hp_at (ca_Bells _)) rfl ?_
        refine V.aload (pc := 122) hB dX9_run_122 rfl ?_
        refine V.cv (pc := 124) hB cw_X6_carryOut wm_X9_296 wi_X6_carryOut ws_X6_carryOut dX9_run_124 (c_X6_carryOut hG hE (i := 1) (c := q) (by omega) hc12 hLq (by rw [hkq]; exact hk2) hk0 (by rw [hnr]; exact hok)) (hp_at (ca_Land (by omega) _)) fk_Land rfl (by omega) (by decide) rfl (by exact Nat.le_of_ble_eq_true rfl) (by omega) (by omega) kN (kV (fun m_124 sz h_124 => ?_)) rfl
        rw [hnr] at h_124
        subst h_124
        refine V.iinc (pc := 127) (v := nI (q + 1)) hB dX9_run_127 rfl (nI_1 _) (by decide) rfl ?_
        refine V.goto (pc := 130) (tgt := 62) hB dX9_run_130 (by decide) ?_
        exact ih hlt sz _ _ (fun q2 h2 => (Nat.lt_succ_iff_lt_or_eq.mp h2).elim (hoks q2) (fun e => by rw [e]; exact hok))
      · have hok : ¬ okM M q := c_93
        have hin := cmdF_in (runM M q) 1 (kdM M q) (M.1 (CM q + 1))
        refine V.aload_n (pc := 96) hB dX9_run_96 rfl ?_
        refine V.iload_n (pc := 97) hB dX9_run_97 rfl ?_
        refine V.p_Bells_failedCommand (pc := 98) hB wf_X9_44 dX9_run_98 ?_
        refine V.aload_n (pc := 101) hB dX9_run_101 rfl ?_
        refine V.iload (pc := 102) hB dX9_run_102 rfl ?_
        refine V.p_Bells_failureKind (pc := 104) hB wf_X9_47 dX9_run_104 (okF_nar hin) (okF_fits hin) ?_
        refine V.throwSW (pc := 107) hB hX hS tw_263_294 dX9_run_107 dX9_run_110 dX9_run_111 dX9_run_114 dX9_run_117 (by omega) (by exact Nat.le_of_ble_eq_true rfl) (by omega) (by omega) (fun _ => ⟨_, rfl, ?_⟩)
        exact Or.inr ⟨rfl, hv, M, q, hp, hlt, hoks, hok, rfl⟩
  refine V.aload_n (pc := 0) hB dX9_run_0 rfl ?_
  refine V.get (pc := 1) hB fk_Bells 5 wf_X9_36 dX9_run_1 (by decide) (hp_at (ca_Bells _)) rfl ?_
  refine V.cv (pc := 4) hB cw_X2_parse wm_X9_272 wi_X2_parse ws_X2_parse dX9_run_4 (c_X2_parse hG hE (m := m) rfl hTK.1 hTK.2.1) (hp_at (ca_CText _)) fk_CText rfl (by omega) (by decide) rfl (by exact Nat.le_of_ble_eq_true rfl) (by omega) (by omega) kN (kI (fun v_4 m_4 sz h_4 => ?_)) rfl
  obtain ⟨rfl, hp⟩ := h_4
  refine V.istore_n (pc := 7) hB dX9_run_7 (by decide) rfl ?_
  refine V.aload_n (pc := 8) hB dX9_run_8 rfl ?_
  refine V.get (pc := 9) hB fk_Bells 5 wf_X9_36 dX9_run_9 (by decide) (hp_at (ca_Bells _)) rfl ?_
  refine V.cv (pc := 12) hB cw_X2_clear wm_X9_275 wi_X2_clear ws_X2_clear dX9_run_12 (c_X2_clear hG) (hp_at (ca_CText _)) fk_CText rfl (by omega) (by decide) rfl (by exact Nat.le_of_ble_eq_true rfl) (by omega) (by omega) kN (kV (fun m_12 sz h_12 => ?_)) rfl
  subst h_12
  have hAg : Agr m (up m_4 333 1 0) 0 := fun o ho => by rw [LA_0, up_cell _ _ _ (by omega)]; exact hp.2.1.2.1 _ (by omega)
  have hL0 := (hAg.lw hI.1).1
  refine V.iload_n (pc := 15) hB dX9_run_15 rfl ?_
  refine V.if_ne (pc := 16) (tgt := 41) hB dX9_run_16 (by decide) (fun c_16 => ?_) (fun c_16 => ?_)
  · have hv := b01 c_16
    obtain ⟨hAcc, h4, h12⟩ := hp.2.2 hv
    refine V.aload_n (pc := 41) hB dX9_run_41 rfl ?_
    refine V.get (pc := 42) hB fk_Bells 1 wf_X9_16 dX9_run_42 (by decide) (hp_at (ca_Bells _)) rfl ?_
    refine V.aload_n (pc := 45) hB dX9_run_45 rfl ?_
    refine V.get (pc := 46) hB fk_Bells 0 wf_X9_12 dX9_run_46 (by decide) (hp_at (ca_Bells _)) rfl ?_
    refine V.cv (pc := 49) hB cw_X6_copyFrom wm_X9_149 wi_X6_copyFrom ws_X6_copyFrom dX9_run_49 (c_X6_copyFrom hG (i := 1) (i2 := 0) (by omega) (by omega) (by decide) hL0) (hp_at (ca_Land (by omega) _)) fk_Land rfl (by omega) (by decide) rfl (by exact Nat.le_of_ble_eq_true rfl) (by omega) (by omega) kN (kV (fun m_49 sz h_49 => ?_)) rfl
    obtain rfl : m_49 = trM m_4 := h_49
    have hL1 : LW (trM m_4) 1 := (cpLand_sm (i := 1) (i2 := 0) (by decide) hL0.nl5).lw hL0
    have htc : ∀ c, (c < 31 ∨ 61 ≤ c) → (trM m_4).1 c = (up m_4 333 1 0).1 c := fun c hc => cpLand_cell hL0.nl5 (by rw [LA_1]; omega)
    refine V.aload_n (pc := 52) hB dX9_run_52 rfl ?_
    refine V.get (pc := 53) hB fk_Bells 5 wf_X9_36 dX9_run_53 (by decide) (hp_at (ca_Bells _)) rfl ?_
    refine V.get (pc := 56) hB fk_CText 4 wf_X9_283 dX9_run_56 (by decide) (hp_at (ca_CText _)) rfl ?_
    rw [htc 333 (by omega), up_slot _ _ _ (by decide), h4]
    refine V.istore_n (pc := 59) hB dX9_run_59 (by decide) rfl ?_
    refine V.iconst (pc := 60) (v := 0) hB dX9_run_60 rfl ?_
    refine V.istore_n (pc := 61) hB dX9_run_61 (by decide) rfl ?_
    exact loop m_4 sz none none hp hv hAcc h12 hL1 htc 0 (by omega) sz none none (fun q2 h => absurd h (Nat.not_lt_zero q2))
  · have hv := b00 c_16
    refine V.aload_n (pc := 19) hB dX9_run_19 rfl ?_
    refine V.aload_n (pc := 20) hB dX9_run_20 rfl ?_
    refine V.get (pc := 21) hB fk_Bells 5 wf_X9_36 dX9_run_21 (by decide) (hp_at (ca_Bells _)) rfl ?_
    refine V.get (pc := 24) hB fk_CText 2 wf_X9_278 dX9_run_24 (by decide) (hp_at (ca_CText _)) rfl ?_
    rw [up_slot _ _ _ (by decide), hp.1]
    refine V.p_Bells_errorPosition (pc := 27) hB wf_X9_40 dX9_run_27 ?_
    refine V.throwSW (pc := 30) hB hX hS tw_254_281 dX9_run_30 dX9_run_33 dX9_run_34 dX9_run_37 dX9_run_40 (by omega) (by exact Nat.le_of_ble_eq_true rfl) (by omega) (by omega) (fun _ => ⟨_, rfl, ?_⟩)
    exact Or.inl ⟨rfl, hv, m_4, hp, rfl⟩
