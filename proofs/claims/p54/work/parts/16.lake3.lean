def thawM (i j N : Nat) (air : Int32) (m : Mem) : Mem := if N = 0 ∨ air ≤ 0 ∨ ¬ m.1 (LK i j + 2) 0 = 0 then m else if m.1 (LK i j + 1) 0 - 1 ≤ 0 then dropM i j N (up m (LK i j + 1) 0 (m.1 (LK i j + 1) 0 - 1)) else up m (LK i j + 1) 0 (m.1 (LK i j + 1) 0 - 1)
def thawV (i j N : Nat) (air : Int32) (m : Mem) : Int32 := if N = 0 ∨ air ≤ 0 ∨ ¬ m.1 (LK i j + 2) 0 = 0 then 0 else 1

set_option maxRecDepth 100000 in
set_option maxHeartbeats 4000000 in
theorem c_X5_thawTop {g : xG} (hG : GK g) {i j : Nat} (hi : i < 11) (hj : j < 5) {m : Mem} {N : Nat} (hN : LN m i j N) {air : Int32} : CC g yX5_thawTop (.code yX5_thawTop cX5_thawTop 2 (some .int)) 3 0 0 [.ref (ad g (LK i j)), .int air] m (rI (fun v m2 => v = thawV i j N air m ∧ m2 = thawM i j N air m)) noX := by
  have hN8 := hN.2
  refine CC.mk hG RX5 rfl (by decide +kernel) rfl (Nat.le_of_ble_eq_true rfl) (fun sz B hB hX => ?_)
  show V g B 0 0 _ (hp g m) sz 0 [some (.ref (ad g (LK i j))), some (.int air)] []
  refine V.aload_n (pc := 0) hB dX5_thawTop_0 rfl ?_
  refine V.get (pc := 1) hB fk_Lake 3 wf_X5_21 dX5_thawTop_1 (by decide) (hp_at (ca_Lake (by omega) (by omega) _)) rfl ?_
  refine V.if_eq (pc := 4) (tgt := 20) hB dX5_thawTop_4 (by decide) (fun c_4 => ?_) (fun c_4 => ?_)
  · have hc : N = 0 ∨ air ≤ 0 ∨ ¬ m.1 (LK i j + 2) 0 = 0 := Or.inl (Decidable.byContradiction (fun z => nI_ne0 (by omega) (by omega) (hN.1.symm.trans c_4)))
    refine V.iconst (pc := 20) (v := 0) hB dX5_thawTop_20 rfl ?_
    refine V.retI (pc := 21) hB dX5_thawTop_21 rfl (rfl) (by omega) (by omega) ?_
    exact ⟨(if_pos hc).symm, (if_pos hc).symm⟩
  · have hN0 : ¬ N = 0 := fun z => c_4 (by rw [hN.1, z]; rfl)
    refine V.iload_n (pc := 7) hB dX5_thawTop_7 rfl ?_
    refine V.if_le (pc := 8) (tgt := 20) hB dX5_thawTop_8 (by decide) (fun c_8 => ?_) (fun c_8 => ?_)
    · have hc : N = 0 ∨ air ≤ 0 ∨ ¬ m.1 (LK i j + 2) 0 = 0 := Or.inr (Or.inl c_8)
      refine V.iconst (pc := 20) (v := 0) hB dX5_thawTop_20 rfl ?_
      refine V.retI (pc := 21) hB dX5_thawTop_21 rfl (rfl) (by omega) (by omega) ?_
      exact ⟨(if_pos hc).symm, (if_pos hc).symm⟩
    · refine V.aload_n (pc := 11) hB dX5_thawTop_11 rfl ?_
      refine V.get (pc := 12) hB fk_Lake 1 wf_X5_15 dX5_thawTop_12 (by decide) (hp_at (ca_Lake (by omega) (by omega) _)) rfl ?_
      refine V.iconst (pc := 15) (v := 0) hB dX5_thawTop_15 rfl ?_
      refine V.ialdM (pc := 16) hB (ca_LTemp (by omega) (by omega)) dX5_thawTop_16 (show ix 0 0 8 from ix_nI (by decide) (by decide)) ?_
      refine V.if_eq (pc := 17) (tgt := 22) hB dX5_thawTop_17 (by decide) (fun c_17 => ?_) (fun c_17 => ?_)
      · have hc : ¬ (N = 0 ∨ air ≤ 0 ∨ ¬ m.1 (LK i j + 2) 0 = 0) := fun z => z.elim hN0 (fun z => z.elim c_8 (fun z => z c_17))
        refine V.aload_n (pc := 22) hB dX5_thawTop_22 rfl ?_
        refine V.get (pc := 23) hB fk_Lake 0 wf_X5_9 dX5_thawTop_23 (by decide) (hp_at (ca_Lake (by omega) (by omega) _)) rfl ?_
        refine V.iconst (pc := 26) (v := 0) hB dX5_thawTop_26 rfl ?_
        refine V.dup2 (pc := 27) hB dX5_thawTop_27 rfl rfl ?_
        refine V.ialdM (pc := 28) hB (ca_LThick (by omega) (by omega)) dX5_thawTop_28 (show ix 0 0 8 from ix_nI (by decide) (by decide)) ?_
        refine V.iconst (pc := 29) (v := 1) hB dX5_thawTop_29 rfl ?_
        refine V.isub (pc := 30) hB dX5_thawTop_30 ?_
        refine V.iastM (pc := 31) hB (ca_LThick (by omega) (by omega)) dX5_thawTop_31 (show ix 0 0 8 from ix_nI (by decide) (by decide)) (ne_LK (by omega) (by omega) (by omega)) ?_
        refine V.aload_n (pc := 32) hB dX5_thawTop_32 rfl ?_
        refine V.get (pc := 33) hB fk_Lake 0 wf_X5_9 dX5_thawTop_33 (by decide) (hp_at (ca_Lake (by omega) (by omega) _)) rfl ?_
        refine V.iconst (pc := 36) (v := 0) hB dX5_thawTop_36 rfl ?_
        refine V.ialdM (pc := 37) hB (ca_LThick (by omega) (by omega)) dX5_thawTop_37 (show ix 0 0 8 from ix_nI (by decide) (by decide)) ?_
        rw [up_same]
        refine V.if_gt (pc := 38) (tgt := 45) hB dX5_thawTop_38 (by decide) (fun c_38 => ?_) (fun c_38 => ?_)
        · refine V.iconst (pc := 45) (v := 1) hB dX5_thawTop_45 rfl ?_
          refine V.retI (pc := 46) hB dX5_thawTop_46 rfl (rfl) (by omega) (by omega) ?_
          first
          | exact ⟨(if_neg hc).symm, ((if_neg hc).trans (if_neg (Int32.not_le.mpr c_38))).symm⟩
          | exact ⟨(if_neg hc).symm, ((if_neg hc).trans (if_pos (Int32.not_lt.mp c_38))).symm⟩
        · refine V.aload_n (pc := 41) hB dX5_thawTop_41 rfl ?_
          refine V.cv (pc := 42) hB cw_X5_dropTop wm_X5_75 wi_X5_dropTop ws_X5_dropTop dX5_thawTop_42 (c_X5_dropTop hG hi hj (hN.up _ (by omega)) (by omega)) (hp_at (ca_Lake (by omega) (by omega) _)) fk_Lake rfl (by omega) (by decide) rfl (by exact Nat.le_of_ble_eq_true rfl) (by omega) (by omega) kN (kV (fun m_42 sz h_42 => ?_)) rfl
          subst h_42
          refine V.iconst (pc := 45) (v := 1) hB dX5_thawTop_45 rfl ?_
          refine V.retI (pc := 46) hB dX5_thawTop_46 rfl (rfl) (by omega) (by omega) ?_
          first
          | exact ⟨(if_neg hc).symm, ((if_neg hc).trans (if_neg (Int32.not_le.mpr c_38))).symm⟩
          | exact ⟨(if_neg hc).symm, ((if_neg hc).trans (if_pos (Int32.not_lt.mp c_38))).symm⟩
      · have hc : N = 0 ∨ air ≤ 0 ∨ ¬ m.1 (LK i j + 2) 0 = 0 := Or.inr (Or.inr c_17)
        refine V.iconst (pc := 20) (v := 0) hB dX5_thawTop_20 rfl ?_
        refine V.retI (pc := 21) hB dX5_thawTop_21 rfl (rfl) (by omega) (by omega) ?_
        exact ⟨(if_pos hc).symm, (if_pos hc).symm⟩

def cpLake (i j i2 j2 : Nat) (m0 : Mem) : Mem :=
  let m1 := setRow m0 (LK i j + 1) (va_cpy (m0.1 (LK i2 j2 + 1)) (m0.1 (LK i j + 1)) 0 0 8)
  let m2 := setRow m1 (LK i j + 2) (va_cpy (m1.1 (LK i2 j2 + 2)) (m1.1 (LK i j + 2)) 0 0 8)
  let m3 := setRow m2 (LK i j + 3) (va_cpy (m2.1 (LK i2 j2 + 3)) (m2.1 (LK i j + 3)) 0 0 8)
  let m4 := up m3 (LK i j) 3 (m3.1 (LK i2 j2) 3)
  let m5 := up m4 (LK i j) 4 (m4.1 (LK i2 j2) 4)
  up m5 (LK i j) 5 (m5.1 (LK i2 j2) 5)

set_option maxRecDepth 100000 in
set_option maxHeartbeats 4000000 in
theorem c_X5_copyFrom {g : xG} (hG : GK g) {i j i2 j2 : Nat} (hi : i < 11) (hj : j < 5) (hi2 : i2 < 11) (hj2 : j2 < 5) {m : Mem} : CC g yX5_copyFrom (.code yX5_copyFrom cX5_copyFrom 2 none) 1 0 0 [.ref (ad g (LK i j)), .ref (ad g (LK i2 j2))] m (rV (fun m2 => m2 = cpLake i j i2 j2 m)) noX := by
  refine CC.mk hG RX5 rfl (by decide +kernel) rfl (Nat.le_of_ble_eq_true rfl) (fun sz B hB hX => ?_)
  show V g B 0 0 _ (hp g m) sz 0 [some (.ref (ad g (LK i j))), some (.ref (ad g (LK i2 j2)))] []
  refine V.aload_n (pc := 0) hB dX5_copyFrom_0 rfl ?_
  refine V.get (pc := 1) hB fk_Lake 0 wf_X5_9 dX5_copyFrom_1 (by decide) (hp_at (ca_Lake (by omega) (by omega) _)) rfl ?_
  refine V.iconst (pc := 4) (v := 0) hB dX5_copyFrom_4 rfl ?_
  refine V.aload_n (pc := 5) hB dX5_copyFrom_5 rfl ?_
  refine V.get (pc := 6) hB fk_Lake 0 wf_X5_9 dX5_copyFrom_6 (by decide) (hp_at (ca_Lake (by omega) (by omega) _)) rfl ?_
  refine V.iconst (pc := 9) (v := 0) hB dX5_copyFrom_9 rfl ?_
  refine V.bipush (pc := 10) (v := 8) hB dX5_copyFrom_10 rfl ?_
  refine V.acopyM (pc := 12) hB 0 8 wm_X5_31 dX5_copyFrom_12 (ca_LThick (by omega) (by omega)) (ca_LThick (by omega) (by omega)) rfl rfl (by decide) rfl (by decide) (by decide) (fun _ _ => rfl) (ne_LK (by omega) (by omega) (by omega)) (by decide) (by exact Nat.le_of_ble_eq_true rfl) ?_
  refine V.aload_n (pc := 15) hB dX5_copyFrom_15 rfl ?_
  refine V.get (pc := 16) hB fk_Lake 1 wf_X5_15 dX5_copyFrom_16 (by decide) (hp_at (ca_Lake (by omega) (by omega) _)) rfl ?_
  refine V.iconst (pc := 19) (v := 0) hB dX5_copyFrom_19 rfl ?_
  refine V.aload_n (pc := 20) hB dX5_copyFrom_20 rfl ?_
  refine V.get (pc := 21) hB fk_Lake 1 wf_X5_15 dX5_copyFrom_21 (by decide) (hp_at (ca_Lake (by omega) (by omega) _)) rfl ?_
  refine V.iconst (pc := 24) (v := 0) hB dX5_copyFrom_24 rfl ?_
  refine V.bipush (pc := 25) (v := 8) hB dX5_copyFrom_25 rfl ?_
  refine V.acopyM (pc := 27) hB 0 8 wm_X5_31 dX5_copyFrom_27 (ca_LTemp (by omega) (by omega)) (ca_LTemp (by omega) (by omega)) rfl rfl (by decide) rfl (by decide) (by decide) (fun _ _ => rfl) (ne_LK (by omega) (by omega) (by omega)) (by decide) (by exact Nat.le_of_ble_eq_true rfl) ?_
  refine V.aload_n (pc := 30) hB dX5_copyFrom_30 rfl ?_
  refine V.get (pc := 31) hB fk_Lake 2 wf_X5_18 dX5_copyFrom_31 (by decide) (hp_at (ca_Lake (by omega) (by omega) _)) rfl ?_
  refine V.iconst (pc := 34) (v := 0) hB dX5_copyFrom_34 rfl ?_
  refine V.aload_n (pc := 35) hB dX5_copyFrom_35 rfl ?_
  refine V.get (pc := 36) hB fk_Lake 2 wf_X5_18 dX5_copyFrom_36 (by decide) (hp_at (ca_Lake (by omega) (by omega) _)) rfl ?_
  refine V.iconst (pc := 39) (v := 0) hB dX5_copyFrom_39 rfl ?_
  refine V.bipush (pc := 40) (v := 8) hB dX5_copyFrom_40 rfl ?_
  refine V.acopyM (pc := 42) hB 0 8 wm_X5_31 dX5_copyFrom_42 (ca_LStrain (by omega) (by omega)) (ca_LStrain (by omega) (by omega)) rfl rfl (by decide) rfl (by decide) (by decide) (fun _ _ => rfl) (ne_LK (by omega) (by omega) (by omega)) (by decide) (by exact Nat.le_of_ble_eq_true rfl) ?_
  refine V.aload_n (pc := 45) hB dX5_copyFrom_45 rfl ?_
  refine V.aload_n (pc := 46) hB dX5_copyFrom_46 rfl ?_
  refine V.get (pc := 47) hB fk_Lake 3 wf_X5_21 dX5_copyFrom_47 (by decide) (hp_at (ca_Lake (by omega) (by omega) _)) rfl ?_
  refine V.p_Lake_layerCount (pc := 50) hB wf_X5_21 dX5_copyFrom_50 (by omega) (by omega) ?_
  refine V.aload_n (pc := 53) hB dX5_copyFrom_53 rfl ?_
  refine V.aload_n (pc := 54) hB dX5_copyFrom_54 rfl ?_
  refine V.get (pc := 55) hB fk_Lake 4 wf_X5_25 dX5_copyFrom_55 (by decide) (hp_at (ca_Lake (by omega) (by omega) _)) rfl ?_
  refine V.p_Lake_depth (pc := 58) hB wf_X5_25 dX5_copyFrom_58 (by omega) (by omega) ?_
  refine V.aload_n (pc := 61) hB dX5_copyFrom_61 rfl ?_
  refine V.aload_n (pc := 62) hB dX5_copyFrom_62 rfl ?_
  refine V.get (pc := 63) hB fk_Lake 5 wf_X5_28 dX5_copyFrom_63 (by decide) (hp_at (ca_Lake (by omega) (by omega) _)) rfl ?_
  refine V.p_Lake_cracks (pc := 66) hB wf_X5_28 dX5_copyFrom_66 (by omega) (by omega) ?_
  refine V.retV (pc := 69) hB dX5_copyFrom_69 rfl (by omega) (by omega) ?_
  exact rfl

/-- the sum of the row from a on, n of it -/
def sumR (K : Nat → Int32) (a n : Nat) : Int32 := l_sum (fun y => K (a + y)) n
theorem sumR_add (K : Nat → Int32) (a n : Nat) : ∀ n', sumR K a n + sumR K (a + n) n' = sumR K a (n + n')
  | 0 => by show sumR K a n + 0 = sumR K a n; exact Int32.add_zero _
  | n' + 1 => by
    show sumR K a n + (sumR K (a + n) n' + K (a + n + n')) = sumR K a (n + n') + K (a + (n + n'))
    rw [← Int32.add_assoc, sumR_add K a n n', Nat.add_assoc]
theorem nI_half {a : Nat} (h : a < 2 ^ 31) : nI a / 2 = nI (a / 2) := pk_div (d := 2) h (by decide) (by decide)

set_option maxRecDepth 100000 in
set_option maxHeartbeats 4000000 in
theorem c_X5_sumOfHalves {g : xG} (hG : GK g) {i j : Nat} (hi : i < 11) (hj : j < 5) {m : Mem} : ∀ (dd : Nat) {a b h : Nat} (_ : a ≤ b) (_ : b ≤ 8) (_ : b - a ≤ 2 ^ dd) (_ : h + dd ≤ 8), CC g yX5_sumOfHalves (.code yX5_sumOfHalves cX5_sumOfHalves 5 (some .int)) (dd + 1) 0 0 [.ref (ad g (LK i j + 1)), .int (nI a), .int (nI b), .int (nI h)] m (rI (fun v m2 => v = sumR (m.1 (LK i j + 1)) a (b - a) ∧ m2 = m)) noX := by
  intro dd
  induction dd with
  | zero =>
      intro a b h hab0 hb8 hsz hh
      rw [Nat.pow_zero] at hsz
      refine CC.mk hG RX5 rfl (by decide +kernel) rfl (Nat.le_of_ble_eq_true rfl) (fun sz B hB hX => ?_)
      show V g B 0 0 _ (hp g m) sz 0 [some (.ref (ad g (LK i j + 1))), some (.int (nI a)), some (.int (nI b)), some (.int (nI h)), none] []
      refine V.iload_n (pc := 0) hB dX5_sumOfHalves_0 rfl ?_
      refine V.if_lt (pc := 1) (tgt := 21) hB dX5_sumOfHalves_1 (by decide) (fun c_1 => ?_) (fun c_1 => ?_)
      · exact absurd c_1 (nI_pos (by omega))
      · refine V.iload_n (pc := 4) hB dX5_sumOfHalves_4 rfl ?_
        refine V.iload_n (pc := 5) hB dX5_sumOfHalves_5 rfl ?_
        refine V.icmp_ge (pc := 6) (tgt := 21) hB dX5_sumOfHalves_6 (by decide) (fun c_6 => ?_) (fun c_6 => ?_)
        · have hab : b ≤ a := (nI_leI (by omega) (by omega)).mp c_6
          refine V.iconst (pc := 21) (v := 0) hB dX5_sumOfHalves_21 rfl ?_
          refine V.retI (pc := 22) hB dX5_sumOfHalves_22 rfl (rfl) (by omega) (by omega) ?_
          refine ⟨?_, rfl⟩
          rw [show b - a = 0 by omega]
          rfl
        · have hab : a < b := Nat.not_le.mp (fun z => c_6 ((nI_leI (by omega) (by omega)).mpr z))
          refine V.iload_n (pc := 9) hB dX5_sumOfHalves_9 rfl ?_
          refine V.aload_n (pc := 10) hB dX5_sumOfHalves_10 rfl ?_
          refine V.alen (pc := 11) (t := 0) (v := 8) hB rfl dX5_sumOfHalves_11 (hp_at (ca_LThick (by omega) (by omega) _)) rfl ?_
          refine V.icmp_gt (pc := 12) (tgt := 21) hB dX5_sumOfHalves_12 (by decide) (fun c_12 => ?_) (fun c_12 => ?_)
          · exact absurd c_12 (by rw [show (8 : Int32) = nI 8 from rfl]; exact nI_nlt (by omega) (by omega))
          · refine V.iload_n (pc := 15) hB dX5_sumOfHalves_15 rfl ?_
            refine V.bipush (pc := 16) (v := 8) hB dX5_sumOfHalves_16 rfl ?_
            refine V.icmp_le (pc := 18) (tgt := 23) hB dX5_sumOfHalves_18 (by decide) (fun c_18 => ?_) (fun c_18 => ?_)
            · refine V.iload_n (pc := 23) hB dX5_sumOfHalves_23 rfl ?_
              refine V.iload_n (pc := 24) hB dX5_sumOfHalves_24 rfl ?_
              refine V.isub (pc := 25) hB dX5_sumOfHalves_25 ?_
              refine V.iconst (pc := 26) (v := 1) hB dX5_sumOfHalves_26 rfl ?_
              rw [pk_sub (show a ≤ b by omega)]
              refine V.icmp_ne (pc := 27) (tgt := 34) hB dX5_sumOfHalves_27 (by decide) (fun c_27 => ?_) (fun c_27 => ?_)
              · exact absurd (show nI (b - a) = 1 by rw [show b - a = 1 by omega]; rfl) c_27
              · have h1 : b - a = 1 := (nI_eq (by omega) (by decide)).mp (show nI (b - a) = nI 1 from c_27)
                refine V.aload_n (pc := 30) hB dX5_sumOfHalves_30 rfl ?_
                refine V.iload_n (pc := 31) hB dX5_sumOfHalves_31 rfl ?_
                refine V.ialdM (pc := 32) hB (ca_LThick (by omega) (by omega)) dX5_sumOfHalves_32 (ix_nI (by omega) (by decide)) ?_
                refine V.retI (pc := 33) hB dX5_sumOfHalves_33 rfl (rfl) (by omega) (by omega) ?_
                refine ⟨?_, rfl⟩
                rw [h1]
                exact (Int32.zero_add _).symm
            · exact absurd (show nI h ≤ 8 by rw [show (8 : Int32) = nI 8 from rfl]; exact nI_le (by omega) (by omega)) c_18
  | succ dd ih =>
      intro a b h hab0 hb8 hsz hh
      rw [Nat.pow_succ] at hsz
      refine CC.mk hG RX5 rfl (by decide +kernel) rfl (Nat.le_of_ble_eq_true rfl) (fun sz B hB hX => ?_)
      show V g B 0 0 _ (hp g m) sz 0 [some (.ref (ad g (LK i j + 1))), some (.int (nI a)), some (.int (nI b)), some (.int (nI h)), none] []
      refine V.iload_n (pc := 0) hB dX5_sumOfHalves_0 rfl ?_
      refine V.if_lt (pc := 1) (tgt := 21) hB dX5_sumOfHalves_1 (by decide) (fun c_1 => ?_) (fun c_1 => ?_)
      · exact absurd c_1 (nI_pos (by omega))
      · refine V.iload_n (pc := 4) hB dX5_sumOfHalves_4 rfl ?_
        refine V.iload_n (pc := 5) hB dX5_sumOfHalves_5 rfl ?_
        refine V.icmp_ge (pc := 6) (tgt := 21) hB dX5_sumOfHalves_6 (by decide) (fun c_6 => ?_) (fun c_6 => ?_)
        · have hab : b ≤ a := (nI_leI (by omega) (by omega)).mp c_6
          refine V.iconst (pc := 21) (v := 0) hB dX5_sumOfHalves_21 rfl ?_
          refine V.retI (pc := 22) hB dX5_sumOfHalves_22 rfl (rfl) (by omega) (by omega) ?_
          refine ⟨?_, rfl⟩
          rw [show b - a = 0 by omega]
          rfl
        · have hab : a < b := Nat.not_le.mp (fun z => c_6 ((nI_leI (by omega) (by omega)).mpr z))
          refine V.iload_n (pc := 9) hB dX5_sumOfHalves_9 rfl ?_
          refine V.aload_n (pc := 10) hB dX5_sumOfHalves_10 rfl ?_
          refine V.alen (pc := 11) (t := 0) (v := 8) hB rfl dX5_sumOfHalves_11 (hp_at (ca_LThick (by omega) (by omega) _)) rfl ?_
          refine V.icmp_gt (pc := 12) (tgt := 21) hB dX5_sumOfHalves_12 (by decide) (fun c_12 => ?_) (fun c_12 => ?_)
          · exact absurd c_12 (by rw [show (8 : Int32) = nI 8 from rfl]; exact nI_nlt (by omega) (by omega))
          · refine V.iload_n (pc := 15) hB dX5_sumOfHalves_15 rfl ?_
            refine V.bipush (pc := 16) (v := 8) hB dX5_sumOfHalves_16 rfl ?_
            refine V.icmp_le (pc := 18) (tgt := 23) hB dX5_sumOfHalves_18 (by decide) (fun c_18 => ?_) (fun c_18 => ?_)
            · refine V.iload_n (pc := 23) hB dX5_sumOfHalves_23 rfl ?_
              refine V.iload_n (pc := 24) hB dX5_sumOfHalves_24 rfl ?_
              refine V.isub (pc := 25) hB dX5_sumOfHalves_25 ?_
              refine V.iconst (pc := 26) (v := 1) hB dX5_sumOfHalves_26 rfl ?_
              rw [pk_sub (show a ≤ b by omega)]
              refine V.icmp_ne (pc := 27) (tgt := 34) hB dX5_sumOfHalves_27 (by decide) (fun c_27 => ?_) (fun c_27 => ?_)
              · have h1 : ¬ b - a = 1 := fun z => c_27 (by rw [z]; rfl)
                refine V.iload_n (pc := 34) hB dX5_sumOfHalves_34 rfl ?_
                refine V.iload_n (pc := 35) hB dX5_sumOfHalves_35 rfl ?_
                refine V.iload_n (pc := 36) hB dX5_sumOfHalves_36 rfl ?_
                refine V.isub (pc := 37) hB dX5_sumOfHalves_37 ?_
                rw [pk_sub (show a ≤ b by omega)]
                refine V.iconst (pc := 38) (v := 2) hB dX5_sumOfHalves_38 rfl ?_
                refine V.idiv (pc := 39) hB dX5_sumOfHalves_39 (by decide) ?_
                rw [nI_half (by omega)]
                refine V.iadd (pc := 40) hB dX5_sumOfHalves_40 ?_
                rw [nI_add]
                refine V.istore (pc := 41) hB dX5_sumOfHalves_41 (by decide) rfl ?_
                refine V.aload_n (pc := 43) hB dX5_sumOfHalves_43 rfl ?_
                refine V.iload_n (pc := 44) hB dX5_sumOfHalves_44 rfl ?_
                refine V.iload (pc := 45) hB dX5_sumOfHalves_45 rfl ?_
                refine V.iload_n (pc := 47) hB dX5_sumOfHalves_47 rfl ?_
                refine V.iconst (pc := 48) (v := 1) hB dX5_sumOfHalves_48 rfl ?_
                refine V.iadd (pc := 49) hB dX5_sumOfHalves_49 ?_
                rw [nI1]
                refine V.cs (pc := 50) hB cw_X5_sumOfHalves wm_X5_41 wst_X5_sumOfHalves dX5_sumOfHalves_50 (ih (a := a) (b := a + (b - a) / 2) (h := h + 1) (by omega) (by omega) (by omega) (by omega)) (by omega) (by decide) rfl (by exact Nat.le_of_ble_eq_true rfl) (by omega) (by omega) kN (kI (fun v_50 m_50 sz h_50 => ?_)) rfl
                obtain ⟨rfl, rfl⟩ := h_50
                refine V.aload_n (pc := 53) hB dX5_sumOfHalves_53 rfl ?_
                refine V.iload (pc := 54) hB dX5_sumOfHalves_54 rfl ?_
                refine V.iload_n (pc := 56) hB dX5_sumOfHalves_56 rfl ?_
                refine V.iload_n (pc := 57) hB dX5_sumOfHalves_57 rfl ?_
                refine V.iconst (pc := 58) (v := 1) hB dX5_sumOfHalves_58 rfl ?_
                refine V.iadd (pc := 59) hB dX5_sumOfHalves_59 ?_
                rw [nI1]
                refine V.cs (pc := 60) hB cw_X5_sumOfHalves wm_X5_41 wst_X5_sumOfHalves dX5_sumOfHalves_60 (ih (a := a + (b - a) / 2) (b := b) (h := h + 1) (by omega) (by omega) (by omega) (by omega)) (by omega) (by decide) rfl (by exact Nat.le_of_ble_eq_true rfl) (by omega) (by omega) kN (kI (fun v_60 m_60 sz h_60 => ?_)) rfl
                obtain ⟨rfl, rfl⟩ := h_60
                refine V.iadd (pc := 63) hB dX5_sumOfHalves_63 ?_
                refine V.retI (pc := 64) hB dX5_sumOfHalves_64 rfl (rfl) (by omega) (by omega) ?_
                refine ⟨?_, rfl⟩
                rw [show a + (b - a) / 2 - a = (b - a) / 2 by omega, sumR_add, show (b - a) / 2 + (b - (a + (b - a) / 2)) = b - a by omega]
              · have h1 : b - a = 1 := (nI_eq (by omega) (by decide)).mp (show nI (b - a) = nI 1 from c_27)
                refine V.aload_n (pc := 30) hB dX5_sumOfHalves_30 rfl ?_
                refine V.iload_n (pc := 31) hB dX5_sumOfHalves_31 rfl ?_
                refine V.ialdM (pc := 32) hB (ca_LThick (by omega) (by omega)) dX5_sumOfHalves_32 (ix_nI (by omega) (by decide)) ?_
                refine V.retI (pc := 33) hB dX5_sumOfHalves_33 rfl (rfl) (by omega) (by omega) ?_
                refine ⟨?_, rfl⟩
                rw [h1]
                exact (Int32.zero_add _).symm
            · exact absurd (show nI h ≤ 8 by rw [show (8 : Int32) = nI 8 from rfl]; exact nI_le (by omega) (by omega)) c_18

set_option maxRecDepth 100000 in
set_option maxHeartbeats 4000000 in
theorem c_X5_iceByHalves {g : xG} (hG : GK g) {i j : Nat} (hi : i < 11) (hj : j < 5) {m : Mem} {N : Nat} (hN : LN m i j N) : CC g yX5_iceByHalves (.code yX5_iceByHalves cX5_iceByHalves 1 (some .int)) 5 0 0 [.ref (ad g (LK i j))] m (rI (fun v m2 => v = l_sum (m.1 (LK i j + 1)) N ∧ m2 = m)) noX := by
  refine CC.mk hG RX5 rfl (by decide +kernel) rfl (Nat.le_of_ble_eq_true rfl) (fun sz B hB hX => ?_)
  show V g B 0 0 _ (hp g m) sz 0 [some (.ref (ad g (LK i j)))] []
  refine V.aload_n (pc := 0) hB dX5_iceByHalves_0 rfl ?_
  refine V.get (pc := 1) hB fk_Lake 0 wf_X5_9 dX5_iceByHalves_1 (by decide) (hp_at (ca_Lake (by omega) (by omega) _)) rfl ?_
  refine V.iconst (pc := 4) (v := 0) hB dX5_iceByHalves_4 rfl ?_
  refine V.aload_n (pc := 5) hB dX5_iceByHalves_5 rfl ?_
  refine V.get (pc := 6) hB fk_Lake 3 wf_X5_21 dX5_iceByHalves_6 (by decide) (hp_at (ca_Lake (by omega) (by omega) _)) rfl ?_
  refine V.iconst (pc := 9) (v := 0) hB dX5_iceByHalves_9 rfl ?_
  rw [hN.1]
  refine V.cs (pc := 10) hB cw_X5_sumOfHalves wm_X5_41 wst_X5_sumOfHalves dX5_iceByHalves_10 (c_X5_sumOfHalves hG hi hj 3 (a := 0) (b := N) (h := 0) (by omega) hN.2 (by have := hN.2; omega) (by omega)) (by omega) (by decide) rfl (by exact Nat.le_of_ble_eq_true rfl) (by omega) (by omega) kN (kI (fun v_10 m_10 sz h_10 => ?_)) rfl
  obtain ⟨rfl, rfl⟩ := h_10
  refine V.retI (pc := 13) hB dX5_iceByHalves_13 rfl (rfl) (by omega) (by omega) ?_
  refine ⟨?_, rfl⟩
  unfold sumR
  rw [Nat.sub_zero]
  congr 1
  funext y
  rw [Nat.zero_add]
