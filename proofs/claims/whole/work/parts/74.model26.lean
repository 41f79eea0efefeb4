/-! where the reference's words begin -/
def stO (k : Nat) : Nat := [0, 5, 12, 16, 21, 28, 33, 40].getD k 40

set_option maxRecDepth 100000 in
set_option maxHeartbeats 1000000 in
theorem c_X10_startOf {g : xG} (hG : GK g) {k : Nat} (hk : k < 8) {m : Mem} : CC g yX10_startOf (.code yX10_startOf cX10_startOf 1 (some .int)) 1 0 0 [.int (nI k)] m (rI (fun v m2 => v = nI (stO k) ∧ m2 = m)) noX := by
  refine CC.mk hG RX10 rfl (by decide +kernel) rfl (Nat.le_of_ble_eq_true rfl) (fun sz B hB hX => ?_)
  show V g B 0 0 _ (hp g m) sz 0 [some (.int (nI k))] []
  refine V.iload_n (pc := 0) hB dX10_startOf_0 rfl ?_
  rcases (by omega : k = 0 ∨ k = 1 ∨ k = 2 ∨ k = 3 ∨ k = 4 ∨ k = 5 ∨ k = 6 ∨ k = 7) with rfl | rfl | rfl | rfl | rfl | rfl | rfl | rfl
  · refine V.tsw_in (pc := 1) (tgt := 44) hB dX10_startOf_1 (by decide) (by decide) rfl (by decide) ?_
    refine V.iconst (pc := 44) (v := 0) hB dX10_startOf_44 rfl ?_
    refine V.retI (pc := 45) hB dX10_startOf_45 rfl (rfl) (by omega) (by omega) ?_
    exact ⟨rfl, rfl⟩
  · refine V.tsw_in (pc := 1) (tgt := 46) hB dX10_startOf_1 (by decide) (by decide) rfl (by decide) ?_
    refine V.iconst (pc := 46) (v := 5) hB dX10_startOf_46 rfl ?_
    refine V.retI (pc := 47) hB dX10_startOf_47 rfl (rfl) (by omega) (by omega) ?_
    exact ⟨rfl, rfl⟩
  · refine V.tsw_in (pc := 1) (tgt := 48) hB dX10_startOf_1 (by decide) (by decide) rfl (by decide) ?_
    refine V.bipush (pc := 48) (v := 12) hB dX10_startOf_48 rfl ?_
    refine V.retI (pc := 50) hB dX10_startOf_50 rfl (rfl) (by omega) (by omega) ?_
    exact ⟨rfl, rfl⟩
  · refine V.tsw_in (pc := 1) (tgt := 51) hB dX10_startOf_1 (by decide) (by decide) rfl (by decide) ?_
    refine V.bipush (pc := 51) (v := 16) hB dX10_startOf_51 rfl ?_
    refine V.retI (pc := 53) hB dX10_startOf_53 rfl (rfl) (by omega) (by omega) ?_
    exact ⟨rfl, rfl⟩
  · refine V.tsw_in (pc := 1) (tgt := 54) hB dX10_startOf_1 (by decide) (by decide) rfl (by decide) ?_
    refine V.bipush (pc := 54) (v := 21) hB dX10_startOf_54 rfl ?_
    refine V.retI (pc := 56) hB dX10_startOf_56 rfl (rfl) (by omega) (by omega) ?_
    exact ⟨rfl, rfl⟩
  · refine V.tsw_in (pc := 1) (tgt := 57) hB dX10_startOf_1 (by decide) (by decide) rfl (by decide) ?_
    refine V.bipush (pc := 57) (v := 28) hB dX10_startOf_57 rfl ?_
    refine V.retI (pc := 59) hB dX10_startOf_59 rfl (rfl) (by omega) (by omega) ?_
    exact ⟨rfl, rfl⟩
  · refine V.tsw_in (pc := 1) (tgt := 60) hB dX10_startOf_1 (by decide) (by decide) rfl (by decide) ?_
    refine V.bipush (pc := 60) (v := 33) hB dX10_startOf_60 rfl ?_
    refine V.retI (pc := 62) hB dX10_startOf_62 rfl (rfl) (by omega) (by omega) ?_
    exact ⟨rfl, rfl⟩
  · refine V.tsw_out (pc := 1) (tgt := 63) hB dX10_startOf_1 (Or.inr (by decide)) (by decide) ?_
    refine V.bipush (pc := 63) (v := 40) hB dX10_startOf_63 rfl ?_
    refine V.retI (pc := 65) hB dX10_startOf_65 rfl (rfl) (by omega) (by omega) ?_
    exact ⟨rfl, rfl⟩
