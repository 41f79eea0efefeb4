/-! the reference's letter of a failure -/
def lfV (k t : Int32) : Int32 := if k = 5 ∨ k = 6 then (if t = 1 then 98 else 117) else if (if k = 1 then t else t + 1) = 1 then 98 else if (if k = 1 then t else t + 1) = 2 then 97 else if (if k = 1 then t else t + 1) = 3 then 115 else 117

set_option maxRecDepth 100000 in
set_option maxHeartbeats 1000000 in
theorem c_X10_letterFor {g : xG} (hG : GK g) {m : Mem} {k : Int32} : CC g yX10_letterFor (.code yX10_letterFor cX10_letterFor 3 (some .int)) 1 0 0 [.ref (ad g 363), .int k] m (rI (fun v m2 => v = lfV k (m.1 363 15) ∧ m2 = m)) noX := by
  refine CC.mk hG RX10 rfl (by decide +kernel) rfl (Nat.le_of_ble_eq_true rfl) (fun sz B hB hX => ?_)
  show V g B 0 0 _ (hp g m) sz 0 [some (.ref (ad g 363)), some (.int k), none] []
  have join : ¬ (k = 5 ∨ k = 6) → ∀ (sz : Nat) (u : Int32), u = (if k = 1 then m.1 363 15 else m.1 363 15 + 1) → V g B 0 0 (QM g B 0 0 (rI (fun v m2 => v = lfV k (m.1 363 15) ∧ m2 = m)) noX) (hp g (m)) sz 45 [some (.ref (ad g 363)), some (.int k), none] [.int u] := by
    intro hk sz u hw
    subst hw
    refine V.istore_n (pc := 45) hB dX10_letterFor_45 (by decide) rfl ?_
    refine V.iload_n (pc := 46) hB dX10_letterFor_46 rfl ?_
    refine V.iconst (pc := 47) (v := 1) hB dX10_letterFor_47 rfl ?_
    refine V.icmp_ne (pc := 48) (tgt := 56) hB dX10_letterFor_48 (by decide) (fun c_48 => ?_) (fun c_48 => ?_)
    · have w1 := c_48
      refine V.iload_n (pc := 56) hB dX10_letterFor_56 rfl ?_
      refine V.iconst (pc := 57) (v := 2) hB dX10_letterFor_57 rfl ?_
      refine V.icmp_ne (pc := 58) (tgt := 66) hB dX10_letterFor_58 (by decide) (fun c_58 => ?_) (fun c_58 => ?_)
      · refine V.iload_n (pc := 66) hB dX10_letterFor_66 rfl ?_
        refine V.iconst (pc := 67) (v := 3) hB dX10_letterFor_67 rfl ?_
        refine V.icmp_ne (pc := 68) (tgt := 76) hB dX10_letterFor_68 (by decide) (fun c_68 => ?_) (fun c_68 => ?_)
        · refine V.bipush (pc := 76) (v := 117) hB dX10_letterFor_76 rfl ?_
          refine V.retI (pc := 78) hB dX10_letterFor_78 rfl (rfl) (by omega) (by omega) ?_
          refine ⟨?_, rfl⟩
          unfold lfV
          rw [if_neg hk]
          first | (rw [if_pos c_48]) | (rw [if_neg c_48, if_pos c_58]) | (rw [if_neg c_48, if_neg c_58, if_pos c_68]) | (rw [if_neg c_48, if_neg c_58, if_neg c_68])
        · refine V.bipush (pc := 71) (v := 115) hB dX10_letterFor_71 rfl ?_
          refine V.goto (pc := 73) (tgt := 78) hB dX10_letterFor_73 (by decide) ?_
          refine V.retI (pc := 78) hB dX10_letterFor_78 rfl (rfl) (by omega) (by omega) ?_
          refine ⟨?_, rfl⟩
          unfold lfV
          rw [if_neg hk]
          first | (rw [if_pos c_48]) | (rw [if_neg c_48, if_pos c_58]) | (rw [if_neg c_48, if_neg c_58, if_pos c_68]) | (rw [if_neg c_48, if_neg c_58, if_neg c_68])
      · refine V.bipush (pc := 61) (v := 97) hB dX10_letterFor_61 rfl ?_
        refine V.goto (pc := 63) (tgt := 78) hB dX10_letterFor_63 (by decide) ?_
        refine V.retI (pc := 78) hB dX10_letterFor_78 rfl (rfl) (by omega) (by omega) ?_
        refine ⟨?_, rfl⟩
        unfold lfV
        rw [if_neg hk]
        first | (rw [if_pos c_48]) | (rw [if_neg c_48, if_pos c_58]) | (rw [if_neg c_48, if_neg c_58, if_pos c_68]) | (rw [if_neg c_48, if_neg c_58, if_neg c_68])
    · have w1 := c_48
      refine V.bipush (pc := 51) (v := 98) hB dX10_letterFor_51 rfl ?_
      refine V.goto (pc := 53) (tgt := 78) hB dX10_letterFor_53 (by decide) ?_
      refine V.retI (pc := 78) hB dX10_letterFor_78 rfl (rfl) (by omega) (by omega) ?_
      refine ⟨?_, rfl⟩
      unfold lfV
      rw [if_neg hk]
      first | (rw [if_pos c_48]) | (rw [if_neg c_48, if_pos c_58]) | (rw [if_neg c_48, if_neg c_58, if_pos c_68]) | (rw [if_neg c_48, if_neg c_58, if_neg c_68])
  refine V.iload_n (pc := 0) hB dX10_letterFor_0 rfl ?_
  refine V.iconst (pc := 1) (v := 5) hB dX10_letterFor_1 rfl ?_
  refine V.icmp_eq (pc := 2) (tgt := 11) hB dX10_letterFor_2 (by decide) (fun c_2 => ?_) (fun c_2 => ?_)
  · have hk : k = 5 ∨ k = 6 := Or.inl c_2
    refine V.aload_n (pc := 11) hB dX10_letterFor_11 rfl ?_
    refine V.get (pc := 12) hB fk_Model 15 wf_X10_44 dX10_letterFor_12 (by decide) (hp_at (ca_Model _)) rfl ?_
    refine V.iconst (pc := 15) (v := 1) hB dX10_letterFor_15 rfl ?_
    refine V.icmp_ne (pc := 16) (tgt := 24) hB dX10_letterFor_16 (by decide) (fun c_16 => ?_) (fun c_16 => ?_)
    · refine V.bipush (pc := 24) (v := 117) hB dX10_letterFor_24 rfl ?_
      refine V.retI (pc := 26) hB dX10_letterFor_26 rfl (rfl) (by omega) (by omega) ?_
      refine ⟨?_, rfl⟩
      unfold lfV
      rw [if_pos hk]
      first | (rw [if_pos c_16]) | (rw [if_neg c_16])
    · refine V.bipush (pc := 19) (v := 98) hB dX10_letterFor_19 rfl ?_
      refine V.goto (pc := 21) (tgt := 26) hB dX10_letterFor_21 (by decide) ?_
      refine V.retI (pc := 26) hB dX10_letterFor_26 rfl (rfl) (by omega) (by omega) ?_
      refine ⟨?_, rfl⟩
      unfold lfV
      rw [if_pos hk]
      first | (rw [if_pos c_16]) | (rw [if_neg c_16])
  · refine V.iload_n (pc := 5) hB dX10_letterFor_5 rfl ?_
    refine V.bipush (pc := 6) (v := 6) hB dX10_letterFor_6 rfl ?_
    refine V.icmp_ne (pc := 8) (tgt := 27) hB dX10_letterFor_8 (by decide) (fun c_8 => ?_) (fun c_8 => ?_)
    · have hk : ¬ (k = 5 ∨ k = 6) := fun z => z.elim c_2 c_8
      refine V.iload_n (pc := 27) hB dX10_letterFor_27 rfl ?_
      refine V.iconst (pc := 28) (v := 1) hB dX10_letterFor_28 rfl ?_
      refine V.icmp_ne (pc := 29) (tgt := 39) hB dX10_letterFor_29 (by decide) (fun c_29 => ?_) (fun c_29 => ?_)
      · have hw : m.1 363 15 + 1 = (if k = 1 then m.1 363 15 else m.1 363 15 + 1) := (if_neg c_29).symm
        refine V.aload_n (pc := 39) hB dX10_letterFor_39 rfl ?_
        refine V.get (pc := 40) hB fk_Model 15 wf_X10_44 dX10_letterFor_40 (by decide) (hp_at (ca_Model _)) rfl ?_
        refine V.iconst (pc := 43) (v := 1) hB dX10_letterFor_43 rfl ?_
        refine V.iadd (pc := 44) hB dX10_letterFor_44 ?_
        exact join hk sz _ hw
      · have hw : m.1 363 15 = (if k = 1 then m.1 363 15 else m.1 363 15 + 1) := (if_pos c_29).symm
        refine V.aload_n (pc := 32) hB dX10_letterFor_32 rfl ?_
        refine V.get (pc := 33) hB fk_Model 15 wf_X10_44 dX10_letterFor_33 (by decide) (hp_at (ca_Model _)) rfl ?_
        refine V.goto (pc := 36) (tgt := 45) hB dX10_letterFor_36 (by decide) ?_
        exact join hk sz _ hw
    · have hk : k = 5 ∨ k = 6 := Or.inr c_8
      refine V.aload_n (pc := 11) hB dX10_letterFor_11 rfl ?_
      refine V.get (pc := 12) hB fk_Model 15 wf_X10_44 dX10_letterFor_12 (by decide) (hp_at (ca_Model _)) rfl ?_
      refine V.iconst (pc := 15) (v := 1) hB dX10_letterFor_15 rfl ?_
      refine V.icmp_ne (pc := 16) (tgt := 24) hB dX10_letterFor_16 (by decide) (fun c_16 => ?_) (fun c_16 => ?_)
      · refine V.bipush (pc := 24) (v := 117) hB dX10_letterFor_24 rfl ?_
        refine V.retI (pc := 26) hB dX10_letterFor_26 rfl (rfl) (by omega) (by omega) ?_
        refine ⟨?_, rfl⟩
        unfold lfV
        rw [if_pos hk]
        first | (rw [if_pos c_16]) | (rw [if_neg c_16])
      · refine V.bipush (pc := 19) (v := 98) hB dX10_letterFor_19 rfl ?_
        refine V.goto (pc := 21) (tgt := 26) hB dX10_letterFor_21 (by decide) ?_
        refine V.retI (pc := 26) hB dX10_letterFor_26 rfl (rfl) (by omega) (by omega) ?_
        refine ⟨?_, rfl⟩
        unfold lfV
        rw [if_pos hk]
        first | (rw [if_pos c_16]) | (rw [if_neg c_16])
