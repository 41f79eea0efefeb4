/-! the reference: hours until a lake is thawed -/
/-- what is found of lake j when p hours are tried -/
def tfD (M : Mem) (j p : Nat) (fv : Int32) : Prop := (fv = 0 ∧ nLy M 0 j = 0) ∨ (¬ nLy M 0 j = 0 ∧ ((fv = -1 ∧ ∀ q, q < p → ¬ nLy (hoursM 1 (cpLand 1 0 M) (q + 1)) 1 j = 0) ∨ ∃ n, n < p ∧ fv = nI (n + 1) ∧ (∀ q, q < n → ¬ nLy (hoursM 1 (cpLand 1 0 M) (q + 1)) 1 j = 0) ∧ nLy (hoursM 1 (cpLand 1 0 M) (n + 1)) 1 j = 0))
theorem tfD.next {M : Mem} {j p : Nat} (h : tfD M j p (-1)) (hp : p < 96) : ¬ nLy M 0 j = 0 ∧ ∀ q, q < p → ¬ nLy (hoursM 1 (cpLand 1 0 M) (q + 1)) 1 j = 0 := by
  rcases h with ⟨h1, _⟩ | ⟨h0, ⟨_, h2⟩ | ⟨n, hn, h1, _⟩⟩
  · exact absurd h1 (by decide)
  · exact ⟨h0, h2⟩
  · exact absurd h1.symm (nI1_ne (by omega))
theorem tfD.mono {M : Mem} {j p : Nat} {fv : Int32} (h : tfD M j p fv) (hp : p ≤ 96) (hf : ¬ fv = -1) : tfD M j 96 fv := by
  rcases h with h | ⟨h0, ⟨h1, _⟩ | ⟨n, hn, h⟩⟩
  · exact Or.inl h
  · exact absurd h1 hf
  · exact Or.inr ⟨h0, Or.inr ⟨n, by omega, h⟩⟩

set_option maxRecDepth 100000 in
set_option maxHeartbeats 1000000 in
theorem c_X10_hoursUntilThawed {g : xG} (hG : GK g) {m M : Mem} (hJ : JS m M) {x : Int32} : CC g yX10_hoursUntilThawed (.code yX10_hoursUntilThawed cX10_hoursUntilThawed 5 (some .int)) 9 0 0 [.ref (ad g 363), .int x] m (rI (fun v m2 => ((inL M x ∧ ((nLy M 0 x.toNatClampNeg = 0 ∧ v = 0) ∨ (¬ nLy M 0 x.toNatClampNeg = 0 ∧ ∃ n, n < 96 ∧ v = nI (n + 1) ∧ (∀ q, q < n → ¬ nLy (hoursM 1 (cpLand 1 0 M) (q + 1)) 1 x.toNatClampNeg = 0) ∧ nLy (hoursM 1 (cpLand 1 0 M) (n + 1)) 1 x.toNatClampNeg = 0)) ∧ m2.1 363 15 = 0) ∨ (v = 0 ∧ ¬ inL M x ∧ m2.1 363 15 = 1) ∨ (v = 0 ∧ inL M x ∧ ¬ nLy M 0 x.toNatClampNeg = 0 ∧ (∀ q, q < 96 → ¬ nLy (hoursM 1 (cpLand 1 0 M) (q + 1)) 1 x.toNatClampNeg = 0) ∧ m2.1 363 15 = 2)) ∧ JS m2 M ∧ MFt m m2)) noX := by
  have hI := hJ.2.1
  have hsm : Sm M (cpLand 1 0 M) 0 1 := cpLand_sm (by decide) hI.1.nl5
  have hT := hJ.1.sm hsm
  have hTL := hT.1.2.1
  obtain ⟨a, ha⟩ : ∃ a, a = islB (m.1 364) x := ⟨_, rfl⟩
  have hil := hJ.1.1.isl x
  rw [← ha] at hil
  refine CC.mk hG RX10 rfl (by decide +kernel) rfl (Nat.le_of_ble_eq_true rfl) (fun sz B hB hX => ?_)
  show V g B 0 0 _ (hp g m) sz 0 [some (.ref (ad g 363)), some (.int x), none, none, none] []
  have j97 : ∀ (sz : Nat) (mm : Mem) (fv : Int32) (x3 x4 : Option Value) (Rw : Nat → Int32) (b : Bool) (u : Int32), MFr (tri m) mm → (∀ k, k < 218 → Rw k = mm.1 366 k) → (inL M x → tfD M x.toNatClampNeg 96 fv) → b = decide (¬ fv = -1) → u = (if b = true then 1 else 0) → V g B 0 0 (QM g B 0 0 (rI (fun v m2 => ((inL M x ∧ ((nLy M 0 x.toNatClampNeg = 0 ∧ v = 0) ∨ (¬ nLy M 0 x.toNatClampNeg = 0 ∧ ∃ n, n < 96 ∧ v = nI (n + 1) ∧ (∀ q, q < n → ¬ nLy (hoursM 1 (cpLand 1 0 M) (q + 1)) 1 x.toNatClampNeg = 0) ∧ nLy (hoursM 1 (cpLand 1 0 M) (n + 1)) 1 x.toNatClampNeg = 0)) ∧ m2.1 363 15 = 0) ∨ (v = 0 ∧ ¬ inL M x ∧ m2.1 363 15 = 1) ∨ (v = 0 ∧ inL M x ∧ ¬ nLy M 0 x.toNatClampNeg = 0 ∧ (∀ q, q < 96 → ¬ nLy (hoursM 1 (cpLand 1 0 M) (q + 1)) 1 x.toNatClampNeg = 0) ∧ m2.1 363 15 = 2)) ∧ JS m2 M ∧ MFt m m2)) noX) (hp g (setRow mm 364 Rw)) sz 97 [some (.ref (ad g 363)), some (.int x), some (.int fv), x3, x4] [.int u, .int (if a = true then 1 else 0), .ref (ad g 363)] := by
    intro sz mm fv x3 x4 Rw b u hF hRk hD hb hu
    refine V.iconst (pc := 97) (v := 1) hB dX10_hoursUntilThawed_97 rfl ?_
    refine V.iconst (pc := 98) (v := 1) hB dX10_hoursUntilThawed_98 rfl ?_
    refine V.cv (pc := 99) hB cw_X10_holds wm_X10_47 wi_X10_holds ws_X10_holds dX10_hoursUntilThawed_99 (c_X10_holds hG) (hp_at (ca_Model _)) fk_Model rfl (by omega) (by decide) rfl (by exact Nat.le_of_ble_eq_true rfl) (by omega) (by omega) kN (kI (fun v_99 m_99 sz h_99 => ?_)) rfl
    obtain ⟨rfl, hm_99⟩ := h_99
    subst hm_99
    rw [hu, thrV_b2]
    refine V.if_eq (pc := 102) (tgt := 109) hB dX10_hoursUntilThawed_102 (by decide) (fun c_102 => ?_) (fun c_102 => ?_)
    · have hab : a = false ∨ (a = true ∧ b = false) := by
        cases a
        · exact Or.inl rfl
        · cases hb2 : b
          · exact Or.inr ⟨rfl, rfl⟩
          · rw [hb2] at c_102; exact absurd c_102 (by decide)
      refine V.iconst (pc := 109) (v := 0) hB dX10_hoursUntilThawed_109 rfl ?_
      refine V.retI (pc := 110) hB dX10_hoursUntilThawed_110 rfl (rfl) (by omega) (by omega) ?_
      refine ⟨Or.inr ?_, hJ.back hF hRk⟩
      rcases hab with e | ⟨e, e2⟩
      · exact Or.inl ⟨rfl, fun z => by rw [hil.mpr z] at e; exact absurd e (by decide), by rw [up_same, e]; rfl⟩
      · have hin := hil.mp e
        have hfv : fv = -1 := Classical.not_not.mp (of_decide_eq_false (hb.symm.trans e2))
        have hd := hD hin
        rw [hfv] at hd
        refine Or.inr ⟨rfl, hin, ?_⟩
        rcases hd with ⟨h1, _⟩ | ⟨g0, ⟨_, g2⟩ | ⟨n, hn, h1, _⟩⟩
        · exact absurd h1 (by decide)
        · exact ⟨g0, g2, by rw [up_same, e, e2]; rfl⟩
        · exact absurd h1.symm (nI1_ne (by omega))
    · have hab : a = true ∧ b = true := by
        cases a
        · exact absurd rfl c_102
        · cases hb2 : b
          · rw [hb2] at c_102; exact absurd rfl c_102
          · exact ⟨rfl, rfl⟩
      refine V.iload_n (pc := 105) hB dX10_hoursUntilThawed_105 rfl ?_
      refine V.goto (pc := 106) (tgt := 110) hB dX10_hoursUntilThawed_106 (by decide) ?_
      refine V.retI (pc := 110) hB dX10_hoursUntilThawed_110 rfl (rfl) (by omega) (by omega) ?_
      obtain ⟨e, e2⟩ := hab
      have hin := hil.mp e
      have hd := hD hin
      have hfn : ¬ fv = -1 := of_decide_eq_true (hb.symm.trans e2)
      refine ⟨Or.inl ⟨hin, ?_, by rw [up_same, e, e2]; rfl⟩, hJ.back hF hRk⟩
      rcases hd with ⟨h1, h2⟩ | ⟨g0, ⟨h1, _⟩ | ⟨n, hn, h1, h2⟩⟩
      · exact Or.inl ⟨h2, h1⟩
      · exact absurd h1 hfn
      · exact Or.inr ⟨g0, n, hn, h1, h2⟩
  have jx : ∀ (sz : Nat) (mm : Mem) (fv : Int32) (x3 x4 : Option Value), MFr (tri m) mm → (inL M x → tfD M x.toNatClampNeg 96 fv) → V g B 0 0 (QM g B 0 0 (rI (fun v m2 => ((inL M x ∧ ((nLy M 0 x.toNatClampNeg = 0 ∧ v = 0) ∨ (¬ nLy M 0 x.toNatClampNeg = 0 ∧ ∃ n, n < 96 ∧ v = nI (n + 1) ∧ (∀ q, q < n → ¬ nLy (hoursM 1 (cpLand 1 0 M) (q + 1)) 1 x.toNatClampNeg = 0) ∧ nLy (hoursM 1 (cpLand 1 0 M) (n + 1)) 1 x.toNatClampNeg = 0)) ∧ m2.1 363 15 = 0) ∨ (v = 0 ∧ ¬ inL M x ∧ m2.1 363 15 = 1) ∨ (v = 0 ∧ inL M x ∧ ¬ nLy M 0 x.toNatClampNeg = 0 ∧ (∀ q, q < 96 → ¬ nLy (hoursM 1 (cpLand 1 0 M) (q + 1)) 1 x.toNatClampNeg = 0) ∧ m2.1 363 15 = 2)) ∧ JS m2 M ∧ MFt m m2)) noX) (hp g (mm)) sz 68 [some (.ref (ad g 363)), some (.int x), some (.int fv), x3, x4] [] := by
    intro sz mm fv x3 x4 hF hD
    refine V.aload_n (pc := 68) hB dX10_hoursUntilThawed_68 rfl ?_
    refine V.get (pc := 69) hB fk_Model 2 wf_X10_16 dX10_hoursUntilThawed_69 (by decide) (hp_at (ca_Model _)) rfl ?_
    refine V.iconst (pc := 72) (v := 0) hB dX10_hoursUntilThawed_72 rfl ?_
    refine V.aload_n (pc := 73) hB dX10_hoursUntilThawed_73 rfl ?_
    refine V.get (pc := 74) hB fk_Model 0 wf_X10_9 dX10_hoursUntilThawed_74 (by decide) (hp_at (ca_Model _)) rfl ?_
    refine V.iconst (pc := 77) (v := 0) hB dX10_hoursUntilThawed_77 rfl ?_
    refine V.cs (pc := 78) hB cw_X10_copies wm_X10_51 wst_X10_copies dX10_hoursUntilThawed_78 (c_X10_copies hG (k0 := 366) (k1 := 364) (a := 0) (b := 0) (by decide) (by decide) ca_Trial ca_Now (by decide) (by decide) (by decide) (xa := 0) (xb := 0) rfl rfl) (by omega) (by decide) rfl (by exact Nat.le_of_ble_eq_true rfl) (by omega) (by omega) kN (kV (fun m_78 sz h_78 => ?_)) rfl
    subst h_78
    obtain ⟨Rw, hRw⟩ : ∃ x, x = cpRow (mm.1 366) (mm.1 364) 0 0 := ⟨_, rfl⟩
    rw [← hRw]
    have hRk : ∀ k, k < 218 → Rw k = mm.1 366 k := fun k hk => by rw [hRw, cpRow_lo hk, Nat.zero_add]
    have hRn : ∀ k, k < 218 → Rw k = m.1 364 k := fun k hk => by rw [hRk k hk, hF.2 366 (by decide) (by decide)]; exact tri_366 m hk
    have hRow : RM ((setRow mm 364 Rw).1 364) M 0 := by rw [setRow_same]; exact hJ.1.1.row hRn
    have hil2 := hRow.isl x
    have hab : islB ((setRow mm 364 Rw).1 364) x = a := by
      cases a
      · cases hb : islB ((setRow mm 364 Rw).1 364) x
        · rfl
        · exact absurd (hil.mpr (hil2.mp hb)) (by decide)
      · exact hil2.mpr (hil.mp rfl)
    obtain ⟨b, hb⟩ : ∃ b, b = decide (¬ fv = -1) := ⟨_, rfl⟩
    refine V.aload_n (pc := 81) hB dX10_hoursUntilThawed_81 rfl ?_
    refine V.aload_n (pc := 82) hB dX10_hoursUntilThawed_82 rfl ?_
    refine V.iload_n (pc := 83) hB dX10_hoursUntilThawed_83 rfl ?_
    refine V.cv (pc := 84) hB cw_X10_isLake wm_X10_73 wi_X10_isLake ws_X10_isLake dX10_hoursUntilThawed_84 (c_X10_isLake hG hRow.1) (hp_at (ca_Model _)) fk_Model rfl (by omega) (by decide) rfl (by exact Nat.le_of_ble_eq_true rfl) (by omega) (by omega) kN (kI (fun v_84 m_84 sz h_84 => ?_)) rfl
    obtain ⟨rfl, hm_84⟩ := h_84
    obtain rfl := hm_84.symm
    rw [hab]
    refine V.iload_n (pc := 87) hB dX10_hoursUntilThawed_87 rfl ?_
    refine V.iconst (pc := 88) (v := (-1)) hB dX10_hoursUntilThawed_88 rfl ?_
    refine V.icmp_eq (pc := 89) (tgt := 96) hB dX10_hoursUntilThawed_89 (by decide) (fun c_89 => ?_) (fun c_89 => ?_)
    · have hu : (0 : Int32) = if b = true then 1 else 0 := by rw [hb, decide_eq_false (fun z => z c_89)]; rfl
      refine V.iconst (pc := 96) (v := 0) hB dX10_hoursUntilThawed_96 rfl ?_
      exact j97 sz mm fv x3 x4 Rw b _ hF hRk hD hb hu
    · have hu : (1 : Int32) = if b = true then 1 else 0 := by rw [hb, decide_eq_true c_89]; rfl
      refine V.iconst (pc := 92) (v := 1) hB dX10_hoursUntilThawed_92 rfl ?_
      refine V.goto (pc := 93) (tgt := 97) hB dX10_hoursUntilThawed_93 (by decide) ?_
      exact j97 sz mm fv x3 x4 Rw b _ hF hRk hD hb hu
  have loop : ∀ p : Nat, p ≤ 96 → ∀ (sz : Nat) (mm : Mem) (fv : Int32) (x4 : Option Value), MFr (tri m) mm → RM (mm.1 364) (hoursM 1 (cpLand 1 0 M) p) 1 → (inL M x → tfD M x.toNatClampNeg p fv) → V g B 0 0 (QM g B 0 0 (rI (fun v m2 => ((inL M x ∧ ((nLy M 0 x.toNatClampNeg = 0 ∧ v = 0) ∨ (¬ nLy M 0 x.toNatClampNeg = 0 ∧ ∃ n, n < 96 ∧ v = nI (n + 1) ∧ (∀ q, q < n → ¬ nLy (hoursM 1 (cpLand 1 0 M) (q + 1)) 1 x.toNatClampNeg = 0) ∧ nLy (hoursM 1 (cpLand 1 0 M) (n + 1)) 1 x.toNatClampNeg = 0)) ∧ m2.1 363 15 = 0) ∨ (v = 0 ∧ ¬ inL M x ∧ m2.1 363 15 = 1) ∨ (v = 0 ∧ inL M x ∧ ¬ nLy M 0 x.toNatClampNeg = 0 ∧ (∀ q, q < 96 → ¬ nLy (hoursM 1 (cpLand 1 0 M) (q + 1)) 1 x.toNatClampNeg = 0) ∧ m2.1 363 15 = 2)) ∧ JS m2 M ∧ MFt m m2)) noX) (hp g (mm)) sz 30 [some (.ref (ad g 363)), some (.int x), some (.int fv), some (.int (nI (p + 1))), x4] [] := by
    refine loop_up (fun p hp ih => ?_)
    intro sz mm fv x4 hF hRp hD
    refine V.iload_n (pc := 30) hB dX10_hoursUntilThawed_30 rfl ?_
    refine V.bipush (pc := 31) (v := 96) hB dX10_hoursUntilThawed_31 rfl ?_
    refine V.icmp_gt (pc := 33) (tgt := 68) hB dX10_hoursUntilThawed_33 (by decide) (fun c_33 => ?_) (fun c_33 => ?_)
    · have hp96 : p = 96 := by
        have hno : ¬ p + 1 ≤ 96 := fun z => absurd ((nI_leI (a := p + 1) (b := 96) (by omega) (by decide)).mpr z) (Int32.not_le.mpr c_33)
        omega
      rw [hp96] at hD
      have nx := jx sz mm fv (some (.int (nI (p + 1)))) x4 hF hD
      exact nx
    · have hlt : p < 96 := by
        have := (nI_leI (a := p + 1) (b := 96) (by omega) (by decide)).mp (Int32.not_lt.mp c_33)
        omega
      refine V.iload_n (pc := 36) hB dX10_hoursUntilThawed_36 rfl ?_
      refine V.iconst (pc := 37) (v := (-1)) hB dX10_hoursUntilThawed_37 rfl ?_
      refine V.icmp_ne (pc := 38) (tgt := 68) hB dX10_hoursUntilThawed_38 (by decide) (fun c_38 => ?_) (fun c_38 => ?_)
      · have nx := jx sz mm fv (some (.int (nI (p + 1)))) x4 hF (fun h => (hD h).mono (by omega) c_38)
        exact nx
      · have hfv : fv = -1 := c_38
        refine V.aload_n (pc := 41) hB dX10_hoursUntilThawed_41 rfl ?_
        refine V.cv (pc := 42) hB cw_X10_passes wm_X10_154 wi_X10_passes ws_X10_passes dX10_hoursUntilThawed_42 (c_X10_passes hG hRp (hT.2.hours hTL p).1) (hp_at (ca_Model _)) fk_Model rfl (by omega) (by decide) rfl (by exact Nat.le_of_ble_eq_true rfl) (by omega) (by omega) kN (kI (fun v_42 m_42 sz h_42 => ?_)) rfl
        obtain ⟨rfl, hF2, hR2⟩ := h_42
        have hR2 : RM (m_42.1 364) (hoursM 1 (cpLand 1 0 M) (p + 1)) 1 := hR2
        refine V.istore (pc := 45) hB dX10_hoursUntilThawed_45 (by decide) rfl ?_
        refine V.aload_n (pc := 47) hB dX10_hoursUntilThawed_47 rfl ?_
        refine V.iload_n (pc := 48) hB dX10_hoursUntilThawed_48 rfl ?_
        refine V.iconst (pc := 49) (v := 2) hB dX10_hoursUntilThawed_49 rfl ?_
        refine V.cv (pc := 50) hB cw_X10_of wm_X10_77 wi_X10_of ws_X10_of dX10_hoursUntilThawed_50 (c_X10_of hG hR2.1 (k := 2) (by decide) rfl) (hp_at (ca_Model _)) fk_Model rfl (by omega) (by decide) rfl (by exact Nat.le_of_ble_eq_true rfl) (by omega) (by omega) kN (kI (fun v_50 m_50 sz h_50 => ?_)) rfl
        obtain ⟨rfl, hm_50⟩ := h_50
        obtain rfl := hm_50.symm
        rw [ofV_2 hR2.1]
        have hY8 := mY_8 hR2.1 x
        have hlk : inL M x → mY (m_42.1 364) (lkI (m_42.1 364) x) = nLy (hoursM 1 (cpLand 1 0 M) (p + 1)) 1 x.toNatClampNeg := fun h => by
          have hnl : nLk (hoursM 1 (cpLand 1 0 M) (p + 1)) 1 = nLk M 0 := (hours_LW hTL (p + 1)).2.trans hsm.nl
          obtain ⟨j, hxe, hj, hjc⟩ := idx_j h (by have := hI.1.nl5; omega)
          rw [hjc, hxe, lkI_j (by rw [hR2.2.2.1, hnl]; exact hj) hR2.1.1.2]
          exact (hR2.2.2.2.2.1 j (by rw [hnl]; exact hj)).1
        refine V.if_ne (pc := 53) (tgt := 60) hB dX10_hoursUntilThawed_53 (by decide) (fun c_53 => ?_) (fun c_53 => ?_)
        · have h0 : ¬ mY (m_42.1 364) (lkI (m_42.1 364) x) = 0 := fun z => c_53 (by rw [z]; decide)
          have nxt := ih hlt sz m_42 (-1) (some (.int (nI (hourN 1 (hoursM 1 (cpLand 1 0 M) p))))) (hF.trans hF2) hR2 (fun h => by
            have hd := hD h
            rw [hfv] at hd
            obtain ⟨g1, g2⟩ := hd.next hlt
            refine Or.inr ⟨g1, Or.inl ⟨rfl, fun q hq => ?_⟩⟩
            by_cases e : q = p
            · rw [e, ← hlk h]; exact h0
            · exact g2 q (by omega))
          refine V.iconst (pc := 60) (v := (-1)) hB dX10_hoursUntilThawed_60 rfl ?_
          refine V.istore_n (pc := 61) hB dX10_hoursUntilThawed_61 (by decide) rfl ?_
          refine V.iinc (pc := 62) (v := nI ((p + 1) + 1)) hB dX10_hoursUntilThawed_62 rfl (nI_1 _) (by decide) rfl ?_
          refine V.goto (pc := 65) (tgt := 30) hB dX10_hoursUntilThawed_65 (by decide) ?_
          exact nxt
        · have h0 : mY (m_42.1 364) (lkI (m_42.1 364) x) = 0 := by
            have := congrArg Int32.toNatClampNeg c_53
            rw [nI_clamp (by omega)] at this
            exact this
          have nxt := ih hlt sz m_42 (nI (p + 1)) (some (.int (nI (hourN 1 (hoursM 1 (cpLand 1 0 M) p))))) (hF.trans hF2) hR2 (fun h => by
            have hd := hD h
            rw [hfv] at hd
            obtain ⟨g1, g2⟩ := hd.next hlt
            exact Or.inr ⟨g1, Or.inr ⟨p, by omega, rfl, g2, by rw [← hlk h]; exact h0⟩⟩)
          refine V.iload_n (pc := 56) hB dX10_hoursUntilThawed_56 rfl ?_
          refine V.goto (pc := 57) (tgt := 61) hB dX10_hoursUntilThawed_57 (by decide) ?_
          refine V.istore_n (pc := 61) hB dX10_hoursUntilThawed_61 (by decide) rfl ?_
          refine V.iinc (pc := 62) (v := nI ((p + 1) + 1)) hB dX10_hoursUntilThawed_62 rfl (nI_1 _) (by decide) rfl ?_
          refine V.goto (pc := 65) (tgt := 30) hB dX10_hoursUntilThawed_65 (by decide) ?_
          exact nxt
  refine V.aload_n (pc := 0) hB dX10_hoursUntilThawed_0 rfl ?_
  refine V.iload_n (pc := 1) hB dX10_hoursUntilThawed_1 rfl ?_
  refine V.iconst (pc := 2) (v := 2) hB dX10_hoursUntilThawed_2 rfl ?_
  refine V.cv (pc := 3) hB cw_X10_of wm_X10_77 wi_X10_of ws_X10_of dX10_hoursUntilThawed_3 (c_X10_of hG hJ.1.1.1 (k := 2) (by decide) rfl) (hp_at (ca_Model _)) fk_Model rfl (by omega) (by decide) rfl (by exact Nat.le_of_ble_eq_true rfl) (by omega) (by omega) kN (kI (fun v_3 m_3 sz h_3 => ?_)) rfl
  obtain ⟨rfl, hm_3⟩ := h_3
  obtain rfl := hm_3.symm
  rw [ofV_2 hJ.1.1.1]
  have hY8 := mY_8 hJ.1.1.1 x
  have hlk : inL M x → mY (m.1 364) (lkI (m.1 364) x) = nLy M 0 x.toNatClampNeg := fun h => by
    obtain ⟨j, hxe, hj, hjc⟩ := idx_j h (by have := hI.1.nl5; omega)
    rw [hjc, hxe, lkI_j (by rw [hJ.1.1.2.2.1]; exact hj) hJ.1.1.1.1.2]
    exact (hJ.1.1.2.2.2.2.1 j hj).1
  refine V.if_ne (pc := 6) (tgt := 13) hB dX10_hoursUntilThawed_6 (by decide) (fun c_6 => ?_) (fun c_6 => ?_)
  · have h0 : ¬ mY (m.1 364) (lkI (m.1 364) x) = 0 := fun z => c_6 (by rw [z]; decide)
    have nx := fun sz => loop 0 (by omega) sz (tri m) (-1) none (MFr.refl _) (by rw [tri_k m (by decide)]; exact hT.1) (fun h => Or.inr ⟨by rw [← hlk h]; exact h0, Or.inl ⟨rfl, fun q hq => absurd hq (by omega)⟩⟩)
    refine V.iconst (pc := 13) (v := (-1)) hB dX10_hoursUntilThawed_13 rfl ?_
    refine V.istore_n (pc := 14) hB dX10_hoursUntilThawed_14 (by decide) rfl ?_
    refine V.aload_n (pc := 15) hB dX10_hoursUntilThawed_15 rfl ?_
    refine V.get (pc := 16) hB fk_Model 0 wf_X10_9 dX10_hoursUntilThawed_16 (by decide) (hp_at (ca_Model _)) rfl ?_
    refine V.iconst (pc := 19) (v := 0) hB dX10_hoursUntilThawed_19 rfl ?_
    refine V.aload_n (pc := 20) hB dX10_hoursUntilThawed_20 rfl ?_
    refine V.get (pc := 21) hB fk_Model 2 wf_X10_16 dX10_hoursUntilThawed_21 (by decide) (hp_at (ca_Model _)) rfl ?_
    refine V.iconst (pc := 24) (v := 0) hB dX10_hoursUntilThawed_24 rfl ?_
    refine V.cs (pc := 25) hB cw_X10_copies wm_X10_51 wst_X10_copies dX10_hoursUntilThawed_25 (c_X10_copies hG (k0 := 364) (k1 := 366) (a := 0) (b := 0) (by decide) (by decide) ca_Now ca_Trial (by decide) (by decide) (by decide) (xa := 0) (xb := 0) rfl rfl) (by omega) (by decide) rfl (by exact Nat.le_of_ble_eq_true rfl) (by omega) (by omega) kN (kV (fun m_25 sz h_25 => ?_)) rfl
    subst h_25
    refine V.mem (m2 := tri m) rfl ?_
    refine V.iconst (pc := 28) (v := 1) hB dX10_hoursUntilThawed_28 rfl ?_
    refine V.istore_n (pc := 29) hB dX10_hoursUntilThawed_29 (by decide) rfl ?_
    exact nx sz
  · have h0 : mY (m.1 364) (lkI (m.1 364) x) = 0 := by
      have := congrArg Int32.toNatClampNeg c_6
      rw [nI_clamp (by omega)] at this
      exact this
    have nx := fun sz => loop 0 (by omega) sz (tri m) 0 none (MFr.refl _) (by rw [tri_k m (by decide)]; exact hT.1) (fun h => Or.inl ⟨rfl, by rw [← hlk h]; exact h0⟩)
    refine V.iconst (pc := 9) (v := 0) hB dX10_hoursUntilThawed_9 rfl ?_
    refine V.goto (pc := 10) (tgt := 14) hB dX10_hoursUntilThawed_10 (by decide) ?_
    refine V.istore_n (pc := 14) hB dX10_hoursUntilThawed_14 (by decide) rfl ?_
    refine V.aload_n (pc := 15) hB dX10_hoursUntilThawed_15 rfl ?_
    refine V.get (pc := 16) hB fk_Model 0 wf_X10_9 dX10_hoursUntilThawed_16 (by decide) (hp_at (ca_Model _)) rfl ?_
    refine V.iconst (pc := 19) (v := 0) hB dX10_hoursUntilThawed_19 rfl ?_
    refine V.aload_n (pc := 20) hB dX10_hoursUntilThawed_20 rfl ?_
    refine V.get (pc := 21) hB fk_Model 2 wf_X10_16 dX10_hoursUntilThawed_21 (by decide) (hp_at (ca_Model _)) rfl ?_
    refine V.iconst (pc := 24) (v := 0) hB dX10_hoursUntilThawed_24 rfl ?_
    refine V.cs (pc := 25) hB cw_X10_copies wm_X10_51 wst_X10_copies dX10_hoursUntilThawed_25 (c_X10_copies hG (k0 := 364) (k1 := 366) (a := 0) (b := 0) (by decide) (by decide) ca_Now ca_Trial (by decide) (by decide) (by decide) (xa := 0) (xb := 0) rfl rfl) (by omega) (by decide) rfl (by exact Nat.le_of_ble_eq_true rfl) (by omega) (by omega) kN (kV (fun m_25 sz h_25 => ?_)) rfl
    subst h_25
    refine V.mem (m2 := tri m) rfl ?_
    refine V.iconst (pc := 28) (v := 1) hB dX10_hoursUntilThawed_28 rfl ?_
    refine V.istore_n (pc := 29) hB dX10_hoursUntilThawed_29 (by decide) rfl ?_
    exact nx sz
