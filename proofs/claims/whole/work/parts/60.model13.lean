/-! the reference: hours until a crack -/
def MFt (m m2 : Mem) : Prop := m2.2 = m.2 ∧ (∀ k, k ≠ 363 → k ≠ 364 → k ≠ 366 → k ≠ 369 → m2.1 k = m.1 k) ∧ ∀ f, f ≠ 15 → m2.1 363 f = m.1 363 f
theorem JS.mem2 {m m2 M : Mem} (h : JS m M) (h1 : ∀ k, k < 218 → m2.1 364 k = m.1 364 k) (h6 : m2.1 363 6 = m.1 363 6) (h5 : m2.1 363 5 = m.1 363 5) (h7 : m2.1 367 = m.1 367) (h8 : m2.1 368 = m.1 368) : JS m2 M := by
  obtain ⟨hG, hI, hs6, hH, hs5, hS⟩ := h
  unfold JS
  rw [h6, h5, h7, h8]
  exact ⟨hG.row h1, hI, hs6, hH, hs5, hS⟩
def tri (m : Mem) : Mem := setRow m 366 (cpRow (m.1 364) (m.1 366) 0 0)
theorem tri_k (m : Mem) {k : Nat} (h : k ≠ 366) : (tri m).1 k = m.1 k := setRow_cell _ _ h
theorem tri_366 (m : Mem) {k : Nat} (h : k < 218) : (tri m).1 366 k = m.1 364 k := by
  unfold tri
  rw [setRow_same, cpRow_lo h, Nat.zero_add]
theorem JS.back {m mm M : Mem} {Rw : Nat → Int32} {t : Int32} (h : JS m M) (hF : MFr (tri m) mm) (hRw : ∀ k, k < 218 → Rw k = mm.1 366 k) : JS (up (setRow mm 364 Rw) 363 15 t) M ∧ MFt m (up (setRow mm 364 Rw) 363 15 t) := by
  have r366 : ∀ k, k < 218 → mm.1 366 k = m.1 364 k := fun k hk => by rw [hF.2 366 (by decide) (by decide)]; exact tri_366 m hk
  have r363 : mm.1 363 = m.1 363 := by rw [hF.2 363 (by decide) (by decide)]; exact tri_k m (by decide)
  have rk : ∀ k, k ≠ 364 → k ≠ 369 → k ≠ 366 → mm.1 k = m.1 k := fun k a b c => by rw [hF.2 k a b]; exact tri_k m c
  refine ⟨h.mem2 (fun k hk => ?_) ?_ ?_ ?_ ?_, hF.1, fun k a b c d => ?_, fun f a => ?_⟩
  · rw [up_cell _ _ _ (by decide), setRow_same, hRw k hk, r366 k hk]
  · rw [up_slot _ _ _ (by decide), setRow_cell _ _ (by decide), r363]
  · rw [up_slot _ _ _ (by decide), setRow_cell _ _ (by decide), r363]
  · rw [up_cell _ _ _ (by decide), setRow_cell _ _ (by decide), rk 367 (by decide) (by decide) (by decide)]
  · rw [up_cell _ _ _ (by decide), setRow_cell _ _ (by decide), rk 368 (by decide) (by decide) (by decide)]
  · rw [up_cell _ _ _ a, setRow_cell _ _ b, rk k b d c]
  · rw [up_slot _ _ _ a, setRow_cell _ _ (by decide), r363]
theorem nI1_ne {n : Nat} (h : n < 1000) : ¬ nI (n + 1) = -1 := by
  intro z
  have h0 : (0 : Int32) ≤ nI (n + 1) := nI_pos' (by omega)
  rw [z] at h0
  exact absurd h0 (by decide)

set_option maxRecDepth 100000 in
set_option maxHeartbeats 1000000 in
theorem c_X10_hoursUntilCrack {g : xG} (hG : GK g) {m M : Mem} (hJ : JS m M) : CC g yX10_hoursUntilCrack (.code yX10_hoursUntilCrack cX10_hoursUntilCrack 3 (some .int)) 9 0 0 [.ref (ad g 363)] m (rI (fun v m2 => ((∃ n, n < 96 ∧ v = nI (n + 1) ∧ (∀ p, p < n → hourN 1 (hoursM 1 (cpLand 1 0 M) p) = 0) ∧ 0 < hourN 1 (hoursM 1 (cpLand 1 0 M) n) ∧ m2.1 363 15 = 0) ∨ ((∀ p, p < 96 → hourN 1 (hoursM 1 (cpLand 1 0 M) p) = 0) ∧ v = 0 ∧ m2.1 363 15 = 1)) ∧ JS m2 M ∧ MFt m m2)) noX := by
  have hI := hJ.2.1
  have hsm : Sm M (cpLand 1 0 M) 0 1 := cpLand_sm (by decide) hI.1.nl5
  have hT := hJ.1.sm hsm
  have hTL := hT.1.2.1
  refine CC.mk hG RX10 rfl (by decide +kernel) rfl (Nat.le_of_ble_eq_true rfl) (fun sz B hB hX => ?_)
  show V g B 0 0 _ (hp g m) sz 0 [some (.ref (ad g 363)), none, none] []
  have j47a : ∀ n : Nat, n < 96 → ((∀ p, p < n → hourN 1 (hoursM 1 (cpLand 1 0 M) p) = 0) ∧ 0 < hourN 1 (hoursM 1 (cpLand 1 0 M) n)) → ∀ (sz : Nat) (mm : Mem) (x2 : Option Value), MFr (tri m) mm → V g B 0 0 (QM g B 0 0 (rI (fun v m2 => ((∃ n, n < 96 ∧ v = nI (n + 1) ∧ (∀ p, p < n → hourN 1 (hoursM 1 (cpLand 1 0 M) p) = 0) ∧ 0 < hourN 1 (hoursM 1 (cpLand 1 0 M) n) ∧ m2.1 363 15 = 0) ∨ ((∀ p, p < 96 → hourN 1 (hoursM 1 (cpLand 1 0 M) p) = 0) ∧ v = 0 ∧ m2.1 363 15 = 1)) ∧ JS m2 M ∧ MFt m m2)) noX) (hp g (mm)) sz 47 [some (.ref (ad g 363)), some (.int (nI (n + 1))), x2] [] := by
    intro n hn hf sz mm x2 hF
    refine V.aload_n (pc := 47) hB dX10_hoursUntilCrack_47 rfl ?_
    refine V.get (pc := 48) hB fk_Model 2 wf_X10_16 dX10_hoursUntilCrack_48 (by decide) (hp_at (ca_Model _)) rfl ?_
    refine V.iconst (pc := 51) (v := 0) hB dX10_hoursUntilCrack_51 rfl ?_
    refine V.aload_n (pc := 52) hB dX10_hoursUntilCrack_52 rfl ?_
    refine V.get (pc := 53) hB fk_Model 0 wf_X10_9 dX10_hoursUntilCrack_53 (by decide) (hp_at (ca_Model _)) rfl ?_
    refine V.iconst (pc := 56) (v := 0) hB dX10_hoursUntilCrack_56 rfl ?_
    refine V.cs (pc := 57) hB cw_X10_copies wm_X10_51 wst_X10_copies dX10_hoursUntilCrack_57 (c_X10_copies hG (k0 := 366) (k1 := 364) (a := 0) (b := 0) (by decide) (by decide) ca_Trial ca_Now (by decide) (by decide) (by decide) (xa := 0) (xb := 0) rfl rfl) (by omega) (by decide) rfl (by exact Nat.le_of_ble_eq_true rfl) (by omega) (by omega) kN (kV (fun m_57 sz h_57 => ?_)) rfl
    subst h_57
    obtain ⟨Rw, hRw⟩ : ∃ x, x = cpRow (mm.1 366) (mm.1 364) 0 0 := ⟨_, rfl⟩
    rw [← hRw]
    have hRk : ∀ k, k < 218 → Rw k = mm.1 366 k := fun k hk => by rw [hRw, cpRow_lo hk, Nat.zero_add]
    refine V.aload_n (pc := 60) hB dX10_hoursUntilCrack_60 rfl ?_
    refine V.iload_n (pc := 61) hB dX10_hoursUntilCrack_61 rfl ?_
    refine V.iconst (pc := 62) (v := (-1)) hB dX10_hoursUntilCrack_62 rfl ?_
    refine V.icmp_eq (pc := 63) (tgt := 70) hB dX10_hoursUntilCrack_63 (by decide) (fun c_63 => ?_) (fun c_63 => ?_)
    · exact absurd c_63 (nI1_ne (by omega))
    · refine V.iconst (pc := 66) (v := 1) hB dX10_hoursUntilCrack_66 rfl ?_
      refine V.goto (pc := 67) (tgt := 71) hB dX10_hoursUntilCrack_67 (by decide) ?_
      refine V.cv (pc := 71) hB cw_X10_goes wm_X10_61 wi_X10_goes ws_X10_goes dX10_hoursUntilCrack_71 (c_X10_goes hG) (hp_at (ca_Model _)) fk_Model rfl (by omega) (by decide) rfl (by exact Nat.le_of_ble_eq_true rfl) (by omega) (by omega) kN (kI (fun v_71 m_71 sz h_71 => ?_)) rfl
      obtain ⟨rfl, hm_71⟩ := h_71
      subst hm_71
      rw [show thrV 1 1 1 1 = 0 from rfl]
      refine V.if_eq (pc := 74) (tgt := 81) hB dX10_hoursUntilCrack_74 (by decide) (fun c_74 => ?_) (fun c_74 => ?_)
      · exact absurd c_74 (by decide)
      · refine V.iload_n (pc := 77) hB dX10_hoursUntilCrack_77 rfl ?_
        refine V.goto (pc := 78) (tgt := 82) hB dX10_hoursUntilCrack_78 (by decide) ?_
        refine V.retI (pc := 82) hB dX10_hoursUntilCrack_82 rfl (rfl) (by omega) (by omega) ?_
        exact ⟨Or.inl ⟨n, hn, rfl, hf.1, hf.2, up_same _ _ _ _⟩, hJ.back hF hRk⟩
  have j47b : (∀ p, p < 96 → hourN 1 (hoursM 1 (cpLand 1 0 M) p) = 0) → ∀ (sz : Nat) (mm : Mem) (x2 : Option Value), MFr (tri m) mm → V g B 0 0 (QM g B 0 0 (rI (fun v m2 => ((∃ n, n < 96 ∧ v = nI (n + 1) ∧ (∀ p, p < n → hourN 1 (hoursM 1 (cpLand 1 0 M) p) = 0) ∧ 0 < hourN 1 (hoursM 1 (cpLand 1 0 M) n) ∧ m2.1 363 15 = 0) ∨ ((∀ p, p < 96 → hourN 1 (hoursM 1 (cpLand 1 0 M) p) = 0) ∧ v = 0 ∧ m2.1 363 15 = 1)) ∧ JS m2 M ∧ MFt m m2)) noX) (hp g (mm)) sz 47 [some (.ref (ad g 363)), some (.int (-1)), x2] [] := by
    intro hf sz mm x2 hF
    refine V.aload_n (pc := 47) hB dX10_hoursUntilCrack_47 rfl ?_
    refine V.get (pc := 48) hB fk_Model 2 wf_X10_16 dX10_hoursUntilCrack_48 (by decide) (hp_at (ca_Model _)) rfl ?_
    refine V.iconst (pc := 51) (v := 0) hB dX10_hoursUntilCrack_51 rfl ?_
    refine V.aload_n (pc := 52) hB dX10_hoursUntilCrack_52 rfl ?_
    refine V.get (pc := 53) hB fk_Model 0 wf_X10_9 dX10_hoursUntilCrack_53 (by decide) (hp_at (ca_Model _)) rfl ?_
    refine V.iconst (pc := 56) (v := 0) hB dX10_hoursUntilCrack_56 rfl ?_
    refine V.cs (pc := 57) hB cw_X10_copies wm_X10_51 wst_X10_copies dX10_hoursUntilCrack_57 (c_X10_copies hG (k0 := 366) (k1 := 364) (a := 0) (b := 0) (by decide) (by decide) ca_Trial ca_Now (by decide) (by decide) (by decide) (xa := 0) (xb := 0) rfl rfl) (by omega) (by decide) rfl (by exact Nat.le_of_ble_eq_true rfl) (by omega) (by omega) kN (kV (fun m_57 sz h_57 => ?_)) rfl
    subst h_57
    obtain ⟨Rw, hRw⟩ : ∃ x, x = cpRow (mm.1 366) (mm.1 364) 0 0 := ⟨_, rfl⟩
    rw [← hRw]
    have hRk : ∀ k, k < 218 → Rw k = mm.1 366 k := fun k hk => by rw [hRw, cpRow_lo hk, Nat.zero_add]
    refine V.aload_n (pc := 60) hB dX10_hoursUntilCrack_60 rfl ?_
    refine V.iload_n (pc := 61) hB dX10_hoursUntilCrack_61 rfl ?_
    refine V.iconst (pc := 62) (v := (-1)) hB dX10_hoursUntilCrack_62 rfl ?_
    refine V.icmp_eq (pc := 63) (tgt := 70) hB dX10_hoursUntilCrack_63 (by decide) (fun c_63 => ?_) (fun c_63 => ?_)
    · refine V.iconst (pc := 70) (v := 0) hB dX10_hoursUntilCrack_70 rfl ?_
      refine V.cv (pc := 71) hB cw_X10_goes wm_X10_61 wi_X10_goes ws_X10_goes dX10_hoursUntilCrack_71 (c_X10_goes hG) (hp_at (ca_Model _)) fk_Model rfl (by omega) (by decide) rfl (by exact Nat.le_of_ble_eq_true rfl) (by omega) (by omega) kN (kI (fun v_71 m_71 sz h_71 => ?_)) rfl
      obtain ⟨rfl, hm_71⟩ := h_71
      subst hm_71
      rw [show thrV 0 1 1 1 = 1 from rfl]
      refine V.if_eq (pc := 74) (tgt := 81) hB dX10_hoursUntilCrack_74 (by decide) (fun c_74 => ?_) (fun c_74 => ?_)
      · refine V.iconst (pc := 81) (v := 0) hB dX10_hoursUntilCrack_81 rfl ?_
        refine V.retI (pc := 82) hB dX10_hoursUntilCrack_82 rfl (rfl) (by omega) (by omega) ?_
        exact ⟨Or.inr ⟨hf, rfl, up_same _ _ _ _⟩, hJ.back hF hRk⟩
      · exact absurd rfl c_74
    · exact absurd rfl c_63
  have found : ∀ n : Nat, n < 96 → ((∀ p, p < n → hourN 1 (hoursM 1 (cpLand 1 0 M) p) = 0) ∧ 0 < hourN 1 (hoursM 1 (cpLand 1 0 M) n)) → ∀ (sz : Nat) (mm : Mem), MFr (tri m) mm → V g B 0 0 (QM g B 0 0 (rI (fun v m2 => ((∃ n, n < 96 ∧ v = nI (n + 1) ∧ (∀ p, p < n → hourN 1 (hoursM 1 (cpLand 1 0 M) p) = 0) ∧ 0 < hourN 1 (hoursM 1 (cpLand 1 0 M) n) ∧ m2.1 363 15 = 0) ∨ ((∀ p, p < 96 → hourN 1 (hoursM 1 (cpLand 1 0 M) p) = 0) ∧ v = 0 ∧ m2.1 363 15 = 1)) ∧ JS m2 M ∧ MFt m m2)) noX) (hp g (mm)) sz 17 [some (.ref (ad g 363)), some (.int (nI (n + 1))), some (.int (nI (n + 1 + 1)))] [] := by
    intro n hn hf sz mm hF
    refine V.iload_n (pc := 17) hB dX10_hoursUntilCrack_17 rfl ?_
    refine V.bipush (pc := 18) (v := 96) hB dX10_hoursUntilCrack_18 rfl ?_
    refine V.icmp_gt (pc := 20) (tgt := 47) hB dX10_hoursUntilCrack_20 (by decide) (fun c_20 => ?_) (fun c_20 => ?_)
    · exact j47a n hn hf sz mm _ hF
    · refine V.iload_n (pc := 23) hB dX10_hoursUntilCrack_23 rfl ?_
      refine V.iconst (pc := 24) (v := (-1)) hB dX10_hoursUntilCrack_24 rfl ?_
      refine V.icmp_ne (pc := 25) (tgt := 47) hB dX10_hoursUntilCrack_25 (by decide) (fun c_25 => ?_) (fun c_25 => ?_)
      · exact j47a n hn hf sz mm _ hF
      · exact absurd c_25 (nI1_ne (by omega))
  have loop : ∀ p : Nat, p ≤ 96 → ∀ (sz : Nat) (mm : Mem), MFr (tri m) mm → RM (mm.1 364) (hoursM 1 (cpLand 1 0 M) p) 1 → (∀ p2, p2 < p → hourN 1 (hoursM 1 (cpLand 1 0 M) p2) = 0) → V g B 0 0 (QM g B 0 0 (rI (fun v m2 => ((∃ n, n < 96 ∧ v = nI (n + 1) ∧ (∀ p, p < n → hourN 1 (hoursM 1 (cpLand 1 0 M) p) = 0) ∧ 0 < hourN 1 (hoursM 1 (cpLand 1 0 M) n) ∧ m2.1 363 15 = 0) ∨ ((∀ p, p < 96 → hourN 1 (hoursM 1 (cpLand 1 0 M) p) = 0) ∧ v = 0 ∧ m2.1 363 15 = 1)) ∧ JS m2 M ∧ MFt m m2)) noX) (hp g (mm)) sz 17 [some (.ref (ad g 363)), some (.int (-1)), some (.int (nI (p + 1)))] [] := by
    refine loop_up (fun p hp ih => ?_)
    intro sz mm hF hRp hz
    refine V.iload_n (pc := 17) hB dX10_hoursUntilCrack_17 rfl ?_
    refine V.bipush (pc := 18) (v := 96) hB dX10_hoursUntilCrack_18 rfl ?_
    refine V.icmp_gt (pc := 20) (tgt := 47) hB dX10_hoursUntilCrack_20 (by decide) (fun c_20 => ?_) (fun c_20 => ?_)
    · have hp96 : p = 96 := by
        have hno : ¬ p + 1 ≤ 96 := fun z => absurd ((nI_leI (a := p + 1) (b := 96) (by omega) (by decide)).mpr z) (Int32.not_le.mpr c_20)
        omega
      rw [hp96] at hz
      have nx := j47b hz sz mm (some (.int (nI (p + 1)))) hF
      exact nx
    · have hlt : p < 96 := by
        have := (nI_leI (a := p + 1) (b := 96) (by omega) (by decide)).mp (Int32.not_lt.mp c_20)
        omega
      refine V.iload_n (pc := 23) hB dX10_hoursUntilCrack_23 rfl ?_
      refine V.iconst (pc := 24) (v := (-1)) hB dX10_hoursUntilCrack_24 rfl ?_
      refine V.icmp_ne (pc := 25) (tgt := 47) hB dX10_hoursUntilCrack_25 (by decide) (fun c_25 => ?_) (fun c_25 => ?_)
      · exact absurd rfl c_25
      · refine V.aload_n (pc := 28) hB dX10_hoursUntilCrack_28 rfl ?_
        refine V.cv (pc := 29) hB cw_X10_passes wm_X10_154 wi_X10_passes ws_X10_passes dX10_hoursUntilCrack_29 (c_X10_passes hG hRp (hT.2.hours hTL p).1) (hp_at (ca_Model _)) fk_Model rfl (by omega) (by decide) rfl (by exact Nat.le_of_ble_eq_true rfl) (by omega) (by omega) kN (kI (fun v_29 m_29 sz h_29 => ?_)) rfl
        obtain ⟨rfl, hF2, hR2⟩ := h_29
        have h40 : hourN 1 (hoursM 1 (cpLand 1 0 M) p) ≤ 40 := hourN_le (hours_LW hTL p).1
        refine V.if_le (pc := 32) (tgt := 39) hB dX10_hoursUntilCrack_32 (by decide) (fun c_32 => ?_) (fun c_32 => ?_)
        · have h0 : hourN 1 (hoursM 1 (cpLand 1 0 M) p) = 0 := by have := (nI_leI (b := 0) (by omega) (by decide)).mp c_32; omega
          have nxt := ih hlt sz m_29 (hF.trans hF2) hR2 (fun p2 hp2 => by
            by_cases e : p2 = p
            · rw [e]; exact h0
            · exact hz p2 (by omega))
          refine V.iconst (pc := 39) (v := (-1)) hB dX10_hoursUntilCrack_39 rfl ?_
          refine V.istore_n (pc := 40) hB dX10_hoursUntilCrack_40 (by decide) rfl ?_
          refine V.iinc (pc := 41) (v := nI ((p + 1) + 1)) hB dX10_hoursUntilCrack_41 rfl (nI_1 _) (by decide) rfl ?_
          refine V.goto (pc := 44) (tgt := 17) hB dX10_hoursUntilCrack_44 (by decide) ?_
          exact nxt
        · have h0 : 0 < hourN 1 (hoursM 1 (cpLand 1 0 M) p) := Nat.pos_of_ne_zero (fun z => c_32 (by rw [z]; decide))
          have nxt := found p hlt ⟨hz, h0⟩ sz m_29 (hF.trans hF2)
          refine V.iload_n (pc := 35) hB dX10_hoursUntilCrack_35 rfl ?_
          refine V.goto (pc := 36) (tgt := 40) hB dX10_hoursUntilCrack_36 (by decide) ?_
          refine V.istore_n (pc := 40) hB dX10_hoursUntilCrack_40 (by decide) rfl ?_
          refine V.iinc (pc := 41) (v := nI ((p + 1) + 1)) hB dX10_hoursUntilCrack_41 rfl (nI_1 _) (by decide) rfl ?_
          refine V.goto (pc := 44) (tgt := 17) hB dX10_hoursUntilCrack_44 (by decide) ?_
          exact nxt
  refine V.iconst (pc := 0) (v := (-1)) hB dX10_hoursUntilCrack_0 rfl ?_
  refine V.istore_n (pc := 1) hB dX10_hoursUntilCrack_1 (by decide) rfl ?_
  refine V.aload_n (pc := 2) hB dX10_hoursUntilCrack_2 rfl ?_
  refine V.get (pc := 3) hB fk_Model 0 wf_X10_9 dX10_hoursUntilCrack_3 (by decide) (hp_at (ca_Model _)) rfl ?_
  refine V.iconst (pc := 6) (v := 0) hB dX10_hoursUntilCrack_6 rfl ?_
  refine V.aload_n (pc := 7) hB dX10_hoursUntilCrack_7 rfl ?_
  refine V.get (pc := 8) hB fk_Model 2 wf_X10_16 dX10_hoursUntilCrack_8 (by decide) (hp_at (ca_Model _)) rfl ?_
  refine V.iconst (pc := 11) (v := 0) hB dX10_hoursUntilCrack_11 rfl ?_
  refine V.cs (pc := 12) hB cw_X10_copies wm_X10_51 wst_X10_copies dX10_hoursUntilCrack_12 (c_X10_copies hG (k0 := 364) (k1 := 366) (a := 0) (b := 0) (by decide) (by decide) ca_Now ca_Trial (by decide) (by decide) (by decide) (xa := 0) (xb := 0) rfl rfl) (by omega) (by decide) rfl (by exact Nat.le_of_ble_eq_true rfl) (by omega) (by omega) kN (kV (fun m_12 sz h_12 => ?_)) rfl
  subst h_12
  refine V.mem (m2 := tri m) rfl ?_
  refine V.iconst (pc := 15) (v := 1) hB dX10_hoursUntilCrack_15 rfl ?_
  refine V.istore_n (pc := 16) hB dX10_hoursUntilCrack_16 (by decide) rfl ?_
  exact loop 0 (by omega) sz (tri m) (MFr.refl _) (by rw [tri_k m (by decide)]; exact hT.1) (fun p hp => absurd hp (by omega))
