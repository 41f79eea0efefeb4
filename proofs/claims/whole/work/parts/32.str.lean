/-! the start's own objects: the kinds, their forms, the switch's table, the digits; java.lang.String's methods -/
abbrev xE : Type := Nat → Nat
/-- a String constant of n Latin-1 letters -/
def strAt (g : xG) (a v n : Nat) (byt : List Int32) : Prop := va_O "java/lang/String" a (xFree g) g.1 g.1.heap ∧ va_OF "java/lang/String" "coder" "B" (.int 0) a (xFree g) g.1 g.1.heap ∧ va_OF "java/lang/String" "value" "[B" (.ref v) a (xFree g) g.1 g.1.heap ∧ va_T .byte v n (fun j => .int (byt.getD j 0)) (xFree g) g.1 g.1.heap ∧ (n ≤ 100 ∧ ∀ j, j < n → ((byt.getD j 0 &&& 255).toUInt32 % 65536).toInt32 = byt.getD j 0)
/-- the form of a kind of command, its letters' numbers -/
def frm (k : Nat) : List Int32 := match k with
  | 0 => [108, 97, 107, 101, 32, 78]
  | 1 => [102, 114, 101, 101, 122, 101, 32, 68, 32, 78, 32, 84]
  | 2 => [97, 105, 114, 32, 84]
  | 3 => [112, 97, 115, 115, 32, 78]
  | 4 => [119, 105, 110, 100, 111, 119, 32, 78, 45, 78]
  | 5 => [111, 112, 101, 110, 32, 68]
  | _ => [115, 116, 114, 105, 107, 101, 32, 68, 68]
def nmB : List Int32 := [108, 97, 107, 101, 32, 102, 114, 101, 101, 122, 101, 32, 97, 105, 114, 32, 112, 97, 115, 115, 32, 119, 105, 110, 100, 111, 119, 32, 111, 112, 101, 110, 32, 115, 116, 114, 105, 107, 101, 32]
def swm (j : Nat) : Int32 := if j < 6 then nI (j + 1) else 0
/-- what stands in the start's heap of the claim's constants; z: where -/
def GE (g : xG) (z : xE) : Prop :=
  va_Z "java/lang/String" "COMPACT_STRINGS" "Z" (.int 1) (xFree g) g.1 g.1.heap ∧
  (va_Z "IceBells" "KINDS" "[LIceBells$Kind;" (.ref (z 0)) (xFree g) g.1 g.1.heap ∧ va_T (.object "IceBells$Kind") (z 0) 7 (fun j => .ref (g.2.2.2 j)) (xFree g) g.1 g.1.heap) ∧
  (va_Z "IceBells$1" "$SwitchMap$IceBells$Kind" "[I" (.ref (z 1)) (xFree g) g.1 g.1.heap ∧ va_T .int (z 1) 7 (fun j => .int (swm j)) (xFree g) g.1 g.1.heap) ∧
  (∀ i, i < 7 → va_O "IceBells$Kind" (g.2.2.2 i) (xFree g) g.1 g.1.heap ∧ va_OF "java/lang/Enum" "ordinal" "I" (.int (nI i)) (g.2.2.2 i) (xFree g) g.1 g.1.heap ∧ va_OF "IceBells$Kind" "form" "Ljava/lang/String;" (.ref (z (10 + i))) (g.2.2.2 i) (xFree g) g.1 g.1.heap ∧ strAt g (z (10 + i)) (z (20 + i)) (frm i).length (frm i)) ∧
  (strAt g (z 2) (z 3) nmB.length nmB ∧ ∃ tx, vk_R RX10 215 tx (z 2) g.1) ∧
  (va_Z "java/lang/Integer" "DigitOnes" "[B" (.ref (z 4)) (xFree g) g.1 g.1.heap ∧ va_T .byte (z 4) 100 (fun j => .int (nI (48 + j % 10))) (xFree g) g.1 g.1.heap) ∧
  (va_Z "java/lang/Integer" "DigitTens" "[B" (.ref (z 5)) (xFree g) g.1 g.1.heap ∧ va_T .byte (z 5) 100 (fun j => .int (nI (48 + j / 10))) (xFree g) g.1 g.1.heap) ∧
  (∃ w : Value, va_Z "jdk/internal/util/Preconditions" "SIOOBE_FORMATTER" "Ljava/util/function/BiFunction;" w (xFree g) g.1 g.1.heap ∧ w.category = 1) ∧
  va_Z "IceBells$Kind" "LAKE" "LIceBells$Kind;" (.ref (g.2.2.2 0)) (xFree g) g.1 g.1.heap
theorem GE.cs {g : xG} {z : xE} (h : GE g z) : va_Z "java/lang/String" "COMPACT_STRINGS" "Z" (.int 1) (xFree g) g.1 g.1.heap := h.1
theorem GE.kinds {g : xG} {z : xE} (h : GE g z) : va_Z "IceBells" "KINDS" "[LIceBells$Kind;" (.ref (z 0)) (xFree g) g.1 g.1.heap := h.2.1.1
theorem GE.kindsT {g : xG} {z : xE} (h : GE g z) : va_T (.object "IceBells$Kind") (z 0) 7 (fun j => .ref (g.2.2.2 j)) (xFree g) g.1 g.1.heap := h.2.1.2
theorem GE.sw {g : xG} {z : xE} (h : GE g z) : va_Z "IceBells$1" "$SwitchMap$IceBells$Kind" "[I" (.ref (z 1)) (xFree g) g.1 g.1.heap := h.2.2.1.1
theorem GE.swT {g : xG} {z : xE} (h : GE g z) : va_T .int (z 1) 7 (fun j => .int (swm j)) (xFree g) g.1 g.1.heap := h.2.2.1.2
theorem GE.ob {g : xG} {z : xE} (h : GE g z) {i : Nat} (hi : i < 7) : va_O "IceBells$Kind" (g.2.2.2 i) (xFree g) g.1 g.1.heap := (h.2.2.2.1 i hi).1
theorem GE.ord {g : xG} {z : xE} (h : GE g z) {i : Nat} (hi : i < 7) : va_OF "java/lang/Enum" "ordinal" "I" (.int (nI i)) (g.2.2.2 i) (xFree g) g.1 g.1.heap := (h.2.2.2.1 i hi).2.1
theorem GE.form {g : xG} {z : xE} (h : GE g z) {i : Nat} (hi : i < 7) : va_OF "IceBells$Kind" "form" "Ljava/lang/String;" (.ref (z (10 + i))) (g.2.2.2 i) (xFree g) g.1 g.1.heap := (h.2.2.2.1 i hi).2.2.1
theorem GE.str {g : xG} {z : xE} (h : GE g z) {i : Nat} (hi : i < 7) : strAt g (z (10 + i)) (z (20 + i)) (frm i).length (frm i) := (h.2.2.2.1 i hi).2.2.2
theorem GE.nm {g : xG} {z : xE} (h : GE g z) : strAt g (z 2) (z 3) nmB.length nmB := h.2.2.2.2.1.1
theorem GE.nmR {g : xG} {z : xE} (h : GE g z) : ∃ tx, vk_R RX10 215 tx (z 2) g.1 := h.2.2.2.2.1.2
theorem GE.d1 {g : xG} {z : xE} (h : GE g z) : va_Z "java/lang/Integer" "DigitOnes" "[B" (.ref (z 4)) (xFree g) g.1 g.1.heap := h.2.2.2.2.2.1.1
theorem GE.d1T {g : xG} {z : xE} (h : GE g z) : va_T .byte (z 4) 100 (fun j => .int (nI (48 + j % 10))) (xFree g) g.1 g.1.heap := h.2.2.2.2.2.1.2
theorem GE.d10 {g : xG} {z : xE} (h : GE g z) : va_Z "java/lang/Integer" "DigitTens" "[B" (.ref (z 5)) (xFree g) g.1 g.1.heap := h.2.2.2.2.2.2.1.1
theorem GE.d10T {g : xG} {z : xE} (h : GE g z) : va_T .byte (z 5) 100 (fun j => .int (nI (48 + j / 10))) (xFree g) g.1 g.1.heap := h.2.2.2.2.2.2.1.2
theorem GE.sio {g : xG} {z : xE} (h : GE g z) : ∃ w : Value, va_Z "jdk/internal/util/Preconditions" "SIOOBE_FORMATTER" "Ljava/util/function/BiFunction;" w (xFree g) g.1 g.1.heap ∧ w.category = 1 := h.2.2.2.2.2.2.2.1
theorem GE.lake {g : xG} {z : xE} (h : GE g z) : va_Z "IceBells$Kind" "LAKE" "LIceBells$Kind;" (.ref (g.2.2.2 0)) (xFree g) g.1 g.1.heap := h.2.2.2.2.2.2.2.2

theorem nar_c16 (x : Int32) : narrow .char (.int (x.toUInt32 % 65536).toInt32) = .int (x.toUInt32 % 65536).toInt32 := by
  show Value.int _ = _
  congr 1
  apply Int32.toBitVec_inj.mp
  apply BitVec.eq_of_toNat_eq
  simp
  try omega
set_option maxRecDepth 100000 in
set_option maxHeartbeats 4000000 in
theorem c_J3_checkIndex_8e157 {g : xG} (hG : GK g) {q n : Nat} (hq : q < n) (hn : n ≤ 1000000) {w : Value} (hw : w.category = 1) {m : Mem} : CC g yJ3_checkIndex_8e157 (.code yJ3_checkIndex_8e157 cJ3_checkIndex_8e157 3 (some .int)) 1 0 0 [.int (nI q), .int (nI n), w] m (rI (fun v m2 => v = nI q ∧ m2 = m)) noX := by
  refine CC.mk hG RJ3 rfl (by decide +kernel) (by show ((1 == 1) && ((1 == 1) && (w.category == 1 && true))) = true; rw [hw]; rfl) (Nat.le_of_ble_eq_true rfl) (fun sz B hB hX => ?_)
  show V g B 0 0 _ (hp g m) sz 0 [some (.int (nI q)), some (.int (nI n)), some (w)] []
  refine V.iload_n (pc := 0) hB dJ3_checkIndex_8e157_0 rfl ?_
  refine V.if_lt (pc := 1) (tgt := 9) hB dJ3_checkIndex_8e157_1 (by decide) (fun c_1 => ?_) (fun c_1 => ?_)
  · exact absurd c_1 (nI_pos (by omega))
  · refine V.iload_n (pc := 4) hB dJ3_checkIndex_8e157_4 rfl ?_
    refine V.iload_n (pc := 5) hB dJ3_checkIndex_8e157_5 rfl ?_
    refine V.icmp_lt (pc := 6) (tgt := 16) hB dJ3_checkIndex_8e157_6 (by decide) (fun c_6 => ?_) (fun c_6 => ?_)
    · refine V.iload_n (pc := 16) hB dJ3_checkIndex_8e157_16 rfl ?_
      refine V.retI (pc := 17) hB dJ3_checkIndex_8e157_17 rfl (rfl) (by omega) (by omega) ?_
      exact ⟨rfl, rfl⟩
    · exact absurd (nI_lt hq (by omega)) c_6

set_option maxRecDepth 100000 in
set_option maxHeartbeats 4000000 in
theorem c_J0_checkIndex_df160 {g : xG} (hG : GK g) {z : xE} (hE : GE g z) {q n : Nat} (hq : q < n) (hn : n ≤ 1000000) {m : Mem} : CC g yJ0_checkIndex_df160 (.code yJ0_checkIndex_df160 cJ0_checkIndex_df160 2 none) 2 0 0 [.int (nI q), .int (nI n)] m (rV (fun m2 => m2 = m)) noX := by
  obtain ⟨w, hw⟩ := hE.sio
  refine CC.mk hG RJ0 rfl (by decide +kernel) rfl (Nat.le_of_ble_eq_true rfl) (fun sz B hB hX => ?_)
  show V g B 0 0 _ (hp g m) sz 0 [some (.int (nI q)), some (.int (nI n))] []
  refine V.iload_n (pc := 0) hB dJ0_checkIndex_df160_0 rfl ?_
  refine V.iload_n (pc := 1) hB dJ0_checkIndex_df160_1 rfl ?_
  refine V.gets (pc := 2) hB (hw.1) wf_J0_1053 dJ0_checkIndex_df160_2 ?_
  refine V.cs (pc := 5) hB cw_J3_checkIndex_8e157 wm_J0_1059 wst_J3_checkIndex_8e157 dJ0_checkIndex_df160_5 (c_J3_checkIndex_8e157 hG hq hn hw.2) (by omega) (by decide) rfl (by exact Nat.le_of_ble_eq_true rfl) (by omega) (by omega) kN (kI (fun v_5 m_5 sz h_5 => ?_)) rfl
  obtain ⟨rfl, rfl⟩ := h_5
  refine V.pop (pc := 8) hB dJ0_checkIndex_df160_8 rfl ?_
  refine V.retV (pc := 9) hB dJ0_checkIndex_df160_9 rfl (by omega) (by omega) ?_
  exact rfl

set_option maxRecDepth 100000 in
set_option maxHeartbeats 4000000 in
theorem c_J0_isLatin1_aae02 {g : xG} (hG : GK g) {z : xE} (hE : GE g z) {a v n : Nat} {byt : List Int32} (hs : strAt g a v n byt) {m : Mem} : CC g yJ0_isLatin1_aae02 (.code yJ0_isLatin1_aae02 cJ0_isLatin1_aae02 1 (some .boolean)) 1 0 0 [.ref a] m (rI (fun x m2 => x = 1 ∧ m2 = m)) noX := by
  refine CC.mk hG RJ0 rfl (by decide +kernel) rfl (Nat.le_of_ble_eq_true rfl) (fun sz B hB hX => ?_)
  show V g B 0 0 _ (hp g m) sz 0 [some (.ref a)] []
  refine V.gets (pc := 0) hB (hE.cs) wf_J0_38 dJ0_isLatin1_aae02_0 ?_
  refine V.if_eq (pc := 3) (tgt := 17) hB dJ0_isLatin1_aae02_3 (by decide) (fun c_3 => ?_) (fun c_3 => ?_)
  · exact absurd c_3 (by decide)
  · refine V.aload_n (pc := 6) hB dJ0_isLatin1_aae02_6 rfl ?_
    refine V.sgetf (pc := 7) hB hs.2.1 wf_J0_15 dJ0_isLatin1_aae02_7 ?_
    refine V.if_ne (pc := 10) (tgt := 17) hB dJ0_isLatin1_aae02_10 (by decide) (fun c_10 => ?_) (fun c_10 => ?_)
    · exact absurd rfl c_10
    · refine V.iconst (pc := 13) (v := 1) hB dJ0_isLatin1_aae02_13 rfl ?_
      refine V.goto (pc := 14) (tgt := 18) hB dJ0_isLatin1_aae02_14 (by decide) ?_
      refine V.retI (pc := 18) hB dJ0_isLatin1_aae02_18 rfl (rfl) (by omega) (by omega) ?_
      exact ⟨rfl, rfl⟩

set_option maxRecDepth 100000 in
set_option maxHeartbeats 4000000 in
theorem c_J0_coder_7d493 {g : xG} (hG : GK g) {z : xE} (hE : GE g z) {a v n : Nat} {byt : List Int32} (hs : strAt g a v n byt) {m : Mem} : CC g yJ0_coder_7d493 (.code yJ0_coder_7d493 cJ0_coder_7d493 1 (some .byte)) 1 0 0 [.ref a] m (rI (fun x m2 => x = 0 ∧ m2 = m)) noX := by
  refine CC.mk hG RJ0 rfl (by decide +kernel) rfl (Nat.le_of_ble_eq_true rfl) (fun sz B hB hX => ?_)
  show V g B 0 0 _ (hp g m) sz 0 [some (.ref a)] []
  refine V.gets (pc := 0) hB (hE.cs) wf_J0_38 dJ0_coder_7d493_0 ?_
  refine V.if_eq (pc := 3) (tgt := 13) hB dJ0_coder_7d493_3 (by decide) (fun c_3 => ?_) (fun c_3 => ?_)
  · exact absurd c_3 (by decide)
  · refine V.aload_n (pc := 6) hB dJ0_coder_7d493_6 rfl ?_
    refine V.sgetf (pc := 7) hB hs.2.1 wf_J0_15 dJ0_coder_7d493_7 ?_
    refine V.goto (pc := 10) (tgt := 14) hB dJ0_coder_7d493_10 (by decide) ?_
    refine V.retI (pc := 14) hB dJ0_coder_7d493_14 rfl (rfl) (by omega) (by omega) ?_
    exact ⟨rfl, rfl⟩

set_option maxRecDepth 100000 in
set_option maxHeartbeats 4000000 in
theorem c_J0_length_8abf5 {g : xG} (hG : GK g) {z : xE} (hE : GE g z) {a v n : Nat} {byt : List Int32} (hs : strAt g a v n byt) {m : Mem} : CC g yJ0_length_8abf5 (.code yJ0_length_8abf5 cJ0_length_8abf5 1 (some .int)) 2 0 0 [.ref a] m (rI (fun x m2 => x = nI n ∧ m2 = m)) noX := by
  refine CC.mk hG RJ0 rfl (by decide +kernel) rfl (Nat.le_of_ble_eq_true rfl) (fun sz B hB hX => ?_)
  show V g B 0 0 _ (hp g m) sz 0 [some (.ref a)] []
  refine V.aload_n (pc := 0) hB dJ0_length_8abf5_0 rfl ?_
  refine V.sgetf (pc := 1) hB hs.2.2.1 wf_J0_9 dJ0_length_8abf5_1 ?_
  refine V.stlen (pc := 4) hB hs.2.2.2.1 rfl dJ0_length_8abf5_4 ?_
  refine V.aload_n (pc := 5) hB dJ0_length_8abf5_5 rfl ?_
  refine V.cvr (pc := 6) hB cw_J0_coder_7d493 wm_J0_335 wi_J0_coder_7d493 ws_J0_coder_7d493 dJ0_length_8abf5_6 (c_J0_coder_7d493 hG hE hs) (RC.so hB hs.1) (by omega) (by decide) rfl (by exact Nat.le_of_ble_eq_true rfl) (by omega) (by omega) kN (kI (fun v_6 m_6 sz h_6 => ?_)) rfl
  obtain ⟨rfl, rfl⟩ := h_6
  refine V.ishr (pc := 9) hB dJ0_length_8abf5_9 ?_
  refine V.retI (pc := 10) hB dJ0_length_8abf5_10 rfl (rfl) (by omega) (by omega) ?_
  exact ⟨sb_shr0 _, rfl⟩

set_option maxRecDepth 100000 in
set_option maxHeartbeats 4000000 in
theorem c_J0_isEmpty_aae02 {g : xG} (hG : GK g) {z : xE} (hE : GE g z) {a v n : Nat} {byt : List Int32} (hs : strAt g a v n byt) (h0 : 0 < n) {m : Mem} : CC g yJ0_isEmpty_aae02 (.code yJ0_isEmpty_aae02 cJ0_isEmpty_aae02 1 (some .boolean)) 1 0 0 [.ref a] m (rI (fun x m2 => x = 0 ∧ m2 = m)) noX := by
  refine CC.mk hG RJ0 rfl (by decide +kernel) rfl (Nat.le_of_ble_eq_true rfl) (fun sz B hB hX => ?_)
  show V g B 0 0 _ (hp g m) sz 0 [some (.ref a)] []
  refine V.aload_n (pc := 0) hB dJ0_isEmpty_aae02_0 rfl ?_
  refine V.sgetf (pc := 1) hB hs.2.2.1 wf_J0_9 dJ0_isEmpty_aae02_1 ?_
  refine V.stlen (pc := 4) hB hs.2.2.2.1 rfl dJ0_isEmpty_aae02_4 ?_
  refine V.if_ne (pc := 5) (tgt := 12) hB dJ0_isEmpty_aae02_5 (by decide) (fun c_5 => ?_) (fun c_5 => ?_)
  · refine V.iconst (pc := 12) (v := 0) hB dJ0_isEmpty_aae02_12 rfl ?_
    refine V.retI (pc := 13) hB dJ0_isEmpty_aae02_13 rfl (rfl) (by omega) (by omega) ?_
    exact ⟨rfl, rfl⟩
  · exact absurd (show nI n = 0 from c_5) (nI_ne0 h0 (by have := hs.2.2.2.2.1; omega))

set_option maxRecDepth 100000 in
set_option maxHeartbeats 4000000 in
theorem c_J1_charAt_3b067 {g : xG} (hG : GK g) {z : xE} (hE : GE g z) {a v n : Nat} {byt : List Int32} (hs : strAt g a v n byt) {q : Nat} (hq : q < n) {m : Mem} : CC g yJ1_charAt_3b067 (.code yJ1_charAt_3b067 cJ1_charAt_3b067 2 (some .char)) 3 0 0 [.ref v, .int (nI q)] m (rI (fun x m2 => x = byt.getD q 0 ∧ m2 = m)) noX := by
  have hn100 := hs.2.2.2.2.1
  have hnar : narrow .char (.int (byt.getD q 0)) = .int (byt.getD q 0) := by rw [← hs.2.2.2.2.2 q hq]; exact nar_c16 _
  refine CC.mk hG RJ1 rfl (by decide +kernel) rfl (Nat.le_of_ble_eq_true rfl) (fun sz B hB hX => ?_)
  show V g B 0 0 _ (hp g m) sz 0 [some (.ref v), some (.int (nI q))] []
  refine V.iload_n (pc := 0) hB dJ1_charAt_3b067_0 rfl ?_
  refine V.aload_n (pc := 1) hB dJ1_charAt_3b067_1 rfl ?_
  refine V.stlen (pc := 2) hB hs.2.2.2.1 rfl dJ1_charAt_3b067_2 ?_
  refine V.cs (pc := 3) hB cw_J0_checkIndex_df160 wm_J1_9 wst_J0_checkIndex_df160 dJ1_charAt_3b067_3 (c_J0_checkIndex_df160 hG hE hq (by omega)) (by omega) (by decide) rfl (by exact Nat.le_of_ble_eq_true rfl) (by omega) (by omega) kN (kV (fun m_3 sz h_3 => ?_)) rfl
  subst h_3
  refine V.aload_n (pc := 6) hB dJ1_charAt_3b067_6 rfl ?_
  refine V.iload_n (pc := 7) hB dJ1_charAt_3b067_7 rfl ?_
  refine V.stb (pc := 8) hB hs.2.2.2.1 (ix_nI hq (by omega)).2 rfl dJ1_charAt_3b067_8 ?_
  rw [nI_clamp (n := q) (by omega)]
  refine V.sipush (pc := 9) (v := 255) hB dJ1_charAt_3b067_9 rfl ?_
  refine V.iand (pc := 12) hB dJ1_charAt_3b067_12 ?_
  refine V.i2c (pc := 13) hB dJ1_charAt_3b067_13 ?_
  rw [hs.2.2.2.2.2 q hq]
  refine V.retI (pc := 14) hB dJ1_charAt_3b067_14 rfl (hnar) (by omega) (by omega) ?_
  exact ⟨rfl, rfl⟩

set_option maxRecDepth 100000 in
set_option maxHeartbeats 4000000 in
theorem c_J0_charAt_5068e {g : xG} (hG : GK g) {z : xE} (hE : GE g z) {a v n : Nat} {byt : List Int32} (hs : strAt g a v n byt) {q : Nat} (hq : q < n) {m : Mem} : CC g yJ0_charAt_5068e (.code yJ0_charAt_5068e cJ0_charAt_5068e 2 (some .char)) 4 0 0 [.ref a, .int (nI q)] m (rI (fun x m2 => x = byt.getD q 0 ∧ m2 = m)) noX := by
  have hnar : narrow .char (.int (byt.getD q 0)) = .int (byt.getD q 0) := by rw [← hs.2.2.2.2.2 q hq]; exact nar_c16 _
  refine CC.mk hG RJ0 rfl (by decide +kernel) rfl (Nat.le_of_ble_eq_true rfl) (fun sz B hB hX => ?_)
  show V g B 0 0 _ (hp g m) sz 0 [some (.ref a), some (.int (nI q))] []
  refine V.aload_n (pc := 0) hB dJ0_charAt_5068e_0 rfl ?_
  refine V.cvr (pc := 1) hB cw_J0_isLatin1_aae02 wm_J0_492 wi_J0_isLatin1_aae02 ws_J0_isLatin1_aae02 dJ0_charAt_5068e_1 (c_J0_isLatin1_aae02 hG hE hs) (RC.so hB hs.1) (by omega) (by decide) rfl (by exact Nat.le_of_ble_eq_true rfl) (by omega) (by omega) kN (kI (fun v_1 m_1 sz h_1 => ?_)) rfl
  obtain ⟨rfl, rfl⟩ := h_1
  refine V.if_eq (pc := 4) (tgt := 16) hB dJ0_charAt_5068e_4 (by decide) (fun c_4 => ?_) (fun c_4 => ?_)
  · exact absurd c_4 (by decide)
  · refine V.aload_n (pc := 7) hB dJ0_charAt_5068e_7 rfl ?_
    refine V.sgetf (pc := 8) hB hs.2.2.1 wf_J0_9 dJ0_charAt_5068e_8 ?_
    refine V.iload_n (pc := 11) hB dJ0_charAt_5068e_11 rfl ?_
    refine V.cs (pc := 12) hB cw_J1_charAt_3b067 wm_J0_495 wst_J1_charAt_3b067 dJ0_charAt_5068e_12 (c_J1_charAt_3b067 hG hE hs hq) (by omega) (by decide) rfl (by exact Nat.le_of_ble_eq_true rfl) (by omega) (by omega) kN (kI (fun v_12 m_12 sz h_12 => ?_)) rfl
    obtain ⟨rfl, rfl⟩ := h_12
    refine V.retI (pc := 15) hB dJ0_charAt_5068e_15 rfl (hnar) (by omega) (by omega) ?_
    exact ⟨rfl, rfl⟩

set_option maxRecDepth 100000 in
set_option maxHeartbeats 4000000 in
theorem c_Jx29ce0_ordinal_8abf5 {g : xG} (hG : GK g) {z : xE} (hE : GE g z) {i : Nat} (hi : i < 7) {m : Mem} : CC g yJx29ce0_ordinal_8abf5 (.code yJx29ce0_ordinal_8abf5 cJx29ce0_ordinal_8abf5 1 (some .int)) 1 0 0 [.ref (g.2.2.2 i)] m (rI (fun x m2 => x = nI i ∧ m2 = m)) noX := by
  refine CC.mk hG RJx29ce0 rfl (by decide +kernel) rfl (Nat.le_of_ble_eq_true rfl) (fun sz B hB hX => ?_)
  show V g B 0 0 _ (hp g m) sz 0 [some (.ref (g.2.2.2 i))] []
  refine V.aload_n (pc := 0) hB dJx29ce0_ordinal_8abf5_0 rfl ?_
  refine V.sgetf (pc := 1) hB (hE.ord hi) wf_Jx29ce0_7 dJx29ce0_ordinal_8abf5_1 ?_
  refine V.retI (pc := 4) hB dJx29ce0_ordinal_8abf5_4 rfl (rfl) (by omega) (by omega) ?_
  exact ⟨rfl, rfl⟩
