theorem ne_LA {i o : Nat} (hi : i < 11) (ho : o < 30) : LA i + o ≠ 361 := by unfold LA; split <;> omega
theorem ne_LK {i j o : Nat} (hi : i < 11) (hj : j < 5) (ho : o < 4) : LK i j + o ≠ 361 := by unfold LK LA; split <;> omega
theorem loop_up {N : Nat} {P : Nat → Prop} (h : ∀ q, q ≤ N → (q < N → P (q + 1)) → P q) : ∀ q, q ≤ N → P q := by
  have H : ∀ n q, q ≤ N → N - q = n → P q := by
    intro n
    induction n with
    | zero => intro q hq hn; exact h q hq (fun hl => by omega)
    | succ n ih => intro q hq hn; exact h q hq (fun hl => ih (q + 1) hl (by omega))
  intro q hq
  exact H _ q hq rfl
/-- a lake's number of layers -/
def LN (m : Mem) (i j N : Nat) : Prop := m.1 (LK i j) 3 = nI N ∧ N ≤ 8

set_option maxRecDepth 100000 in
set_option maxHeartbeats 4000000 in
theorem c_X5_hasLayer {g : xG} (hG : GK g) {i j : Nat} (hi : i < 11) (hj : j < 5) {m : Mem} {N : Nat} (hN : LN m i j N) {x : Int32} : CC g yX5_hasLayer (.code yX5_hasLayer cX5_hasLayer 2 (some .boolean)) 1 0 0 [.ref (ad g (LK i j)), .int x] m (rI (fun v m2 => v = (if 0 ≤ x ∧ x < nI N then 1 else 0) ∧ m2 = m)) noX := by
  obtain ⟨hN, hN8⟩ := hN
  refine CC.mk hG RX5 rfl (by decide +kernel) rfl (by decide) (fun sz B hB hX => ?_)
  show V g B 0 0 _ (hp g m) sz 0 [some (.ref (ad g (LK i j))), some (.int x)] []
  refine V.iload_n hB dX5_hasLayer_0 rfl ?_
  refine V.if_lt (tgt := 16) hB dX5_hasLayer_1 (by decide) (fun c_1 => ?_) (fun c_1 => ?_)
  · refine V.iconst hB dX5_hasLayer_16 rfl ?_
    refine V.retI hB dX5_hasLayer_17 rfl (rfl) (by omega) (by omega) ?_
    sorry
  · refine V.iload_n hB dX5_hasLayer_4 rfl ?_
    refine V.aload_n hB dX5_hasLayer_5 rfl ?_
    refine V.get hB fk_Lake 3 wf_X5_21 dX5_hasLayer_6 (by decide) (hp_at (ca_Lake (by omega) (by omega) _)) rfl ?_
    refine V.icmp_ge (tgt := 16) hB dX5_hasLayer_9 (by decide) (fun c_9 => ?_) (fun c_9 => ?_)
    · refine V.iconst hB dX5_hasLayer_16 rfl ?_
      refine V.retI hB dX5_hasLayer_17 rfl (rfl) (by omega) (by omega) ?_
      sorry
    · refine V.iconst hB dX5_hasLayer_12 rfl ?_
      refine V.goto (tgt := 17) hB dX5_hasLayer_13 (by decide) ?_
      refine V.retI hB dX5_hasLayer_17 rfl (rfl) (by omega) (by omega) ?_
      sorry

set_option maxRecDepth 100000 in
set_option maxHeartbeats 4000000 in
theorem c_X5_iceByLayers {g : xG} (hG : GK g) {i j : Nat} (hi : i < 11) (hj : j < 5) {m : Mem} {N : Nat} (hN : LN m i j N) : CC g yX5_iceByLayers (.code yX5_iceByLayers cX5_iceByLayers 3 (some .int)) 1 0 0 [.ref (ad g (LK i j))] m (rI (fun v m2 => v = l_sum (m.1 (LK i j + 1)) N ∧ m2 = m)) noX := by
  obtain ⟨hN, hN8⟩ := hN
  refine CC.mk hG RX5 rfl (by decide +kernel) rfl (by decide) (fun sz B hB hX => ?_)
  show V g B 0 0 _ (hp g m) sz 0 [some (.ref (ad g (LK i j))), none, none] []
  have loop : ∀ q : Nat, q ≤ N → V g B 0 0 (QM g B 0 0 (rI (fun v m2 => v = l_sum (m.1 (LK i j + 1)) N ∧ m2 = m)) noX) (hp g m) sz 4 [some (.ref (ad g (LK i j))), some (.int (l_sum (m.1 (LK i j + 1)) q)), some (.int (nI q))] [] := by
    refine loop_up (fun q hq ih => ?_)
    refine V.iload_n hB dX5_iceByLayers_4 rfl ?_
    refine V.aload_n hB dX5_iceByLayers_5 rfl ?_
    refine V.get hB fk_Lake 3 wf_X5_21 dX5_iceByLayers_6 (by decide) (hp_at (ca_Lake (by omega) (by omega) _)) rfl ?_
    refine V.icmp_ge (tgt := 27) hB dX5_iceByLayers_9 (by decide) (fun c_9 => ?_) (fun c_9 => ?_)
    · refine V.iload_n hB dX5_iceByLayers_27 rfl ?_
      refine V.retI hB dX5_iceByLayers_28 rfl (rfl) (by omega) (by omega) ?_
      refine ⟨?_, rfl⟩
      rw [show q = N by rw [hN] at c_9; exact (Nat.le_antisymm hq ((nI_leI (by omega) (by omega)).mp c_9))]
    · have hlt : q < N := by rw [hN] at c_9; exact Nat.not_le.mp (fun z => c_9 ((nI_leI (by omega) (by omega)).mpr z))
      refine V.iload_n hB dX5_iceByLayers_12 rfl ?_
      refine V.aload_n hB dX5_iceByLayers_13 rfl ?_
      refine V.get hB fk_Lake 0 wf_X5_9 dX5_iceByLayers_14 (by decide) (hp_at (ca_Lake (by omega) (by omega) _)) rfl ?_
      refine V.iload_n hB dX5_iceByLayers_17 rfl ?_
      refine V.ialdM hB (ca_LThick (by omega) (by omega)) dX5_iceByLayers_18 (ix_nI (by omega) (by decide)) ?_
      refine V.iadd hB dX5_iceByLayers_19 ?_
      refine V.istore_n hB dX5_iceByLayers_20 (by decide) rfl ?_
      refine V.iinc (v := nI (q + 1)) hB dX5_iceByLayers_21 rfl (nI_1 _) (by decide) rfl ?_
      refine V.goto (tgt := 4) hB dX5_iceByLayers_24 (by decide) ?_
      exact ih hlt
  refine V.iconst hB dX5_iceByLayers_0 rfl ?_
  refine V.istore_n hB dX5_iceByLayers_1 (by decide) rfl ?_
  refine V.iconst hB dX5_iceByLayers_2 rfl ?_
  refine V.istore_n hB dX5_iceByLayers_3 (by decide) rfl ?_
  exact loop 0 (by omega)
