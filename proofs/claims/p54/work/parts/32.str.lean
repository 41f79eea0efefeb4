/-! the start's own objects: the digits, the law's text constants; java.lang.String's reads, over any picture -/
abbrev xE : Type := Nat → Nat
/-- a String constant of n Latin-1 letters -/
def strAt (g : xG) (a v n : Nat) (byt : List Int32) : Prop := va_O "java/lang/String" a (xFree g) g.1 g.1.heap ∧ va_OF "java/lang/String" "coder" "B" (.int 0) a (xFree g) g.1 g.1.heap ∧ va_OF "java/lang/String" "value" "[B" (.ref v) a (xFree g) g.1 g.1.heap ∧ va_T .byte v n (fun j => .int (byt.getD j 0)) (xFree g) g.1 g.1.heap ∧ (n ≤ 100 ∧ ∀ j, j < n → ((byt.getD j 0 &&& 255).toUInt32 % 65536).toInt32 = byt.getD j 0)
/-- the law's text constants: nothing, a blank, a stroke, a mark -/
def lst (k : Nat) : List Int32 := match k with
  | 0 => []
  | 1 => [32]
  | 2 => [47]
  | _ => [33]
def lsi (k : Nat) : Nat := match k with
  | 0 => 158
  | 1 => 170
  | 2 => 175
  | _ => 177
/-- what stands in the start's heap of the claim's constants; z: where -/
def GE (g : xG) (z : xE) : Prop :=
  va_Z "java/lang/String" "COMPACT_STRINGS" "Z" (.int 1) (xFree g) g.1 g.1.heap ∧
  (∀ i, i < 4 → strAt g (z (10 + i)) (z (20 + i)) (lst i).length (lst i) ∧ ∃ tx, vk_R RL (lsi i) tx (z (10 + i)) g.1) ∧
  (va_Z "java/lang/Integer" "DigitOnes" "[B" (.ref (z 4)) (xFree g) g.1 g.1.heap ∧ va_T .byte (z 4) 100 (fun j => .int (nI (48 + j % 10))) (xFree g) g.1 g.1.heap) ∧
  (va_Z "java/lang/Integer" "DigitTens" "[B" (.ref (z 5)) (xFree g) g.1 g.1.heap ∧ va_T .byte (z 5) 100 (fun j => .int (nI (48 + j / 10))) (xFree g) g.1 g.1.heap) ∧
  (∃ w : Value, va_Z "jdk/internal/util/Preconditions" "SIOOBE_FORMATTER" "Ljava/util/function/BiFunction;" w (xFree g) g.1 g.1.heap ∧ w.category = 1) ∧
  va_Z "IceBells$Kind" "LAKE" "LIceBells$Kind;" (.ref (g.2.2.2.1 0)) (xFree g) g.1 g.1.heap
theorem GE.cs {g : xG} {z : xE} (h : GE g z) : va_Z "java/lang/String" "COMPACT_STRINGS" "Z" (.int 1) (xFree g) g.1 g.1.heap := h.1
theorem GE.str {g : xG} {z : xE} (h : GE g z) {i : Nat} (hi : i < 4) : strAt g (z (10 + i)) (z (20 + i)) (lst i).length (lst i) := (h.2.1 i hi).1
theorem GE.strR {g : xG} {z : xE} (h : GE g z) {i : Nat} (hi : i < 4) : ∃ tx, vk_R RL (lsi i) tx (z (10 + i)) g.1 := (h.2.1 i hi).2
theorem GE.d1 {g : xG} {z : xE} (h : GE g z) : va_Z "java/lang/Integer" "DigitOnes" "[B" (.ref (z 4)) (xFree g) g.1 g.1.heap := h.2.2.1.1
theorem GE.d1T {g : xG} {z : xE} (h : GE g z) : va_T .byte (z 4) 100 (fun j => .int (nI (48 + j % 10))) (xFree g) g.1 g.1.heap := h.2.2.1.2
theorem GE.d10 {g : xG} {z : xE} (h : GE g z) : va_Z "java/lang/Integer" "DigitTens" "[B" (.ref (z 5)) (xFree g) g.1 g.1.heap := h.2.2.2.1.1
theorem GE.d10T {g : xG} {z : xE} (h : GE g z) : va_T .byte (z 5) 100 (fun j => .int (nI (48 + j / 10))) (xFree g) g.1 g.1.heap := h.2.2.2.1.2
theorem GE.sio {g : xG} {z : xE} (h : GE g z) : ∃ w : Value, va_Z "jdk/internal/util/Preconditions" "SIOOBE_FORMATTER" "Ljava/util/function/BiFunction;" w (xFree g) g.1 g.1.heap ∧ w.category = 1 := h.2.2.2.2.1
theorem GE.lake {g : xG} {z : xE} (h : GE g z) : va_Z "IceBells$Kind" "LAKE" "LIceBells$Kind;" (.ref (g.2.2.2.1 0)) (xFree g) g.1 g.1.heap := h.2.2.2.2.2

theorem nar_c16 (x : Int32) : narrow .char (.int (x.toUInt32 % 65536).toInt32) = .int (x.toUInt32 % 65536).toInt32 := by
  show Value.int _ = _
  congr 1
  apply Int32.toBitVec_inj.mp
  apply BitVec.eq_of_toNat_eq
  simp
  try omega
def noT : String → xH → Nat → Prop := fun _ _ _ => False
/-- a contract that leaves any picture as it is, over the memory -/
theorem CC.ofT {g : xG} {y : MethodName} {w0 : Cond} {d mc ms : Nat} {av : List Value} {P : OV → Prop} (h : ∀ (h : xH) (sz : Nat), Ct g y w0 d mc ms av h sz (fun r h' sz' => P r ∧ h' = h ∧ sz' = sz) noT) {m : Mem} : CC g y w0 d mc ms av m (fun r m2 => P r ∧ m2 = m) noX := fun sz => (h _ sz).imp (fun r h' sz' ⟨h1, h2, _⟩ => ⟨m, h2, h1, rfl⟩) (fun _ _ _ hf => hf.elim)
set_option maxRecDepth 100000 in
set_option maxHeartbeats 4000000 in
theorem t_J3_checkIndex {g : xG} (hG : GK g) {q n : Nat} (hq : q < n) (hn : n ≤ 1000000) {w : Value} (hw : w.category = 1) (h : xH) (sz : Nat) : Ct g yJ3_checkIndex_8e157 (.code yJ3_checkIndex_8e157 cJ3_checkIndex_8e157 3 (some .int)) 1 0 0 [.int (nI q), .int (nI n), w] h sz (fun r h' sz' => r = some (.int (nI q)) ∧ h' = h ∧ sz' = sz) noT := by
  refine Ct.mk hG RJ3 rfl (by decide +kernel) (by show ((1 == 1) && ((1 == 1) && (w.category == 1 && true))) = true; rw [hw]; rfl) (Nat.le_of_ble_eq_true rfl) (fun B hB hX _ => ?_)
  show V g B 0 0 _ h sz 0 [some (.int (nI q)), some (.int (nI n)), some (w)] []
  refine V.iload_n (pc := 0) hB dJ3_checkIndex_8e157_0 rfl ?_
  refine V.if_lt (pc := 1) (tgt := 9) hB dJ3_checkIndex_8e157_1 (by decide) (fun c_1 => ?_) (fun c_1 => ?_)
  · exact absurd c_1 (nI_pos (by omega))
  · refine V.iload_n (pc := 4) hB dJ3_checkIndex_8e157_4 rfl ?_
    refine V.iload_n (pc := 5) hB dJ3_checkIndex_8e157_5 rfl ?_
    refine V.icmp_lt (pc := 6) (tgt := 16) hB dJ3_checkIndex_8e157_6 (by decide) (fun c_6 => ?_) (fun c_6 => ?_)
    · refine V.iload_n (pc := 16) hB dJ3_checkIndex_8e157_16 rfl ?_
      exact V.iret (pc := 17) hB dJ3_checkIndex_8e157_17 rfl ⟨rfl, rfl, rfl⟩
    · exact absurd (nI_lt hq (by omega)) c_6
theorem c_J3_checkIndex_8e157 {g : xG} (hG : GK g) {q n : Nat} (hq : q < n) (hn : n ≤ 1000000) {w : Value} (hw : w.category = 1) {m : Mem} : CC g yJ3_checkIndex_8e157 (.code yJ3_checkIndex_8e157 cJ3_checkIndex_8e157 3 (some .int)) 1 0 0 [.int (nI q), .int (nI n), w] m (rI (fun v m2 => v = nI q ∧ m2 = m)) noX :=
  (CC.ofT (t_J3_checkIndex hG hq hn hw)).imp (fun r m' ⟨h1, h2⟩ => ⟨_, h1, rfl, h2⟩) (fun _ _ hf => hf)
set_option maxRecDepth 100000 in
set_option maxHeartbeats 4000000 in
theorem t_J0_checkIndex {g : xG} (hG : GK g) {z : xE} (hE : GE g z) {q n : Nat} (hq : q < n) (hn : n ≤ 1000000) (h : xH) (sz : Nat) : Ct g yJ0_checkIndex_df160 (.code yJ0_checkIndex_df160 cJ0_checkIndex_df160 2 none) 2 0 0 [.int (nI q), .int (nI n)] h sz (fun r h' sz' => r = none ∧ h' = h ∧ sz' = sz) noT := by
  obtain ⟨w, hw⟩ := hE.sio
  refine Ct.mk hG RJ0 rfl (by decide +kernel) rfl (Nat.le_of_ble_eq_true rfl) (fun B hB hX _ => ?_)
  show V g B 0 0 _ h sz 0 [some (.int (nI q)), some (.int (nI n))] []
  refine V.iload_n (pc := 0) hB dJ0_checkIndex_df160_0 rfl ?_
  refine V.iload_n (pc := 1) hB dJ0_checkIndex_df160_1 rfl ?_
  refine V.gets (pc := 2) hB (hw.1) wf_J0_1053 dJ0_checkIndex_df160_2 ?_
  refine V.callS (pc := 5) hB cw_J3_checkIndex_8e157 wm_J0_1059 wst_J3_checkIndex_8e157 dJ0_checkIndex_df160_5 (by decide) (by decide) (t_J3_checkIndex hG hq hn hw.2 _ _) rfl (by exact Nat.le_of_ble_eq_true rfl) (by omega) (by omega) (fun _ _ _ hf => hf.elim) (fun v h' sz' hr => ?_) rfl
  obtain ⟨rfl, rfl, rfl⟩ := hr
  refine V.pop (pc := 8) hB dJ0_checkIndex_df160_8 rfl ?_
  exact V.vret (pc := 9) hB dJ0_checkIndex_df160_9 rfl ⟨rfl, rfl, rfl⟩
theorem c_J0_checkIndex_df160 {g : xG} (hG : GK g) {z : xE} (hE : GE g z) {q n : Nat} (hq : q < n) (hn : n ≤ 1000000) {m : Mem} : CC g yJ0_checkIndex_df160 (.code yJ0_checkIndex_df160 cJ0_checkIndex_df160 2 none) 2 0 0 [.int (nI q), .int (nI n)] m (rV (fun m2 => m2 = m)) noX :=
  (CC.ofT (t_J0_checkIndex hG hE hq hn)).imp (fun r m' ⟨h1, h2⟩ => ⟨h1, h2⟩) (fun _ _ hf => hf)
/-- a String at a, of the start or of the heap, its n letters byt -/
def SX (g : xG) (h : xH) (a v n : Nat) (byt : List Int32) : Prop := n = byt.length ∧ n ≤ 100 ∧ (∀ j, j < n → fits .byte (.int (byt.getD j 0)) = true ∧ ((byt.getD j 0 &&& 255).toUInt32 % 65536).toInt32 = byt.getD j 0) ∧ ((va_O "java/lang/String" a (xFree g) g.1 g.1.heap ∧ va_OF "java/lang/String" "coder" "B" (.int 0) a (xFree g) g.1 g.1.heap ∧ va_OF "java/lang/String" "value" "[B" (.ref v) a (xFree g) g.1 g.1.heap ∧ va_T .byte v n (fun j => .int (byt.getD j 0)) (xFree g) g.1 g.1.heap) ∨ ((∃ w1 w2 : Value, h a = some (.inr (8, [.ref v, .int 0, w1, w2]))) ∧ h v = some (.inl (g.2.2.1 4, n, .inl (fun j => byt.getD j 0)))))
section VSX
variable {g : xG} {B : BT} {k n0 : Nat} {Q : State → Prop} {h : xH} {sz pc : Nat} {ls : List (Option Value)} {st : List Value} {cc : ByteArray} {nL : Nat} {own : String} {ret : Option FieldType} {d mc ms : Nat} {a v n : Nat} {byt : List Int32}
theorem V.sx_value (hB : Bd g B cc nL own ret d mc ms) (hs : SX g h a v n byt) {idx : Nat} (hlink : WD (.fieldLink own idx "java/lang/String" "value" "[B")) (hd : decode cc pc = .ok (.getfield idx, 3)) (kk : V g B k n0 Q h sz (pc + 3) ls (.ref v :: st)) : V g B k n0 Q h sz pc ls (.ref a :: st) := by
  obtain ⟨-, -, -, ⟨-, -, h3, -⟩ | ⟨⟨w1, w2, h1⟩, -⟩⟩ := hs
  · exact V.sgetf hB h3 hlink hd kk
  · exact V.get hB fk_Str 0 hlink hd (by decide) h1 rfl kk
theorem V.sx_coder (hB : Bd g B cc nL own ret d mc ms) (hs : SX g h a v n byt) {idx : Nat} (hlink : WD (.fieldLink own idx "java/lang/String" "coder" "B")) (hd : decode cc pc = .ok (.getfield idx, 3)) (kk : V g B k n0 Q h sz (pc + 3) ls (.int 0 :: st)) : V g B k n0 Q h sz pc ls (.ref a :: st) := by
  obtain ⟨-, -, -, ⟨-, h3, -, -⟩ | ⟨⟨w1, w2, h1⟩, -⟩⟩ := hs
  · exact V.sgetf hB h3 hlink hd kk
  · exact V.get hB fk_Str 1 hlink hd (by decide) h1 rfl kk
theorem V.sx_len (hB : Bd g B cc nL own ret d mc ms) (hs : SX g h a v n byt) (hd : decode cc pc = .ok (.arraylength, 1)) (kk : V g B k n0 Q h sz (pc + 1) ls (.int (nI n) :: st)) : V g B k n0 Q h sz pc ls (.ref v :: st) := by
  obtain ⟨-, -, -, ⟨-, -, -, h3⟩ | ⟨-, h1⟩⟩ := hs
  · exact V.stlen hB h3 rfl hd kk
  · exact V.alen (t := 4) hB rfl hd h1 rfl kk
theorem V.sx_ld (hB : Bd g B cc nL own ret d mc ms) (hs : SX g h a v n byt) {q : Nat} (hq : q < n) (hd : decode cc pc = .ok (.baload, 1)) (kk : V g B k n0 Q h sz (pc + 1) ls (.int (byt.getD q 0) :: st)) : V g B k n0 Q h sz pc ls (.int (nI q) :: .ref v :: st) := by
  obtain ⟨-, h100, -, ⟨-, -, -, h3⟩ | ⟨-, h1⟩⟩ := hs
  · refine V.stb hB h3 (ix_nI hq (by omega)).2 rfl hd ?_
    rw [nI_clamp (n := q) (by omega)]
    exact kk
  · refine V.bald hB hd h1 (ix_nI hq (by omega)).2 ?_
    rw [nI_clamp (n := q) (by omega)]
    exact kk
theorem SX.rc (hB : Bd g B cc nL own ret d mc ms) (hs : SX g h a v n byt) : RC g B h sz a "java/lang/String" := by
  obtain ⟨-, -, -, ⟨h3, -, -, -⟩ | ⟨⟨w1, w2, h1⟩, -⟩⟩ := hs
  · exact RC.so hB h3
  · exact RC.hp hB h1 (ci := 8) rfl
end VSX

set_option maxRecDepth 100000 in
set_option maxHeartbeats 4000000 in
theorem t_J0_isLatin1 {g : xG} (hG : GK g) {z : xE} (hE : GE g z) {h : xH} {sz a v n : Nat} {byt : List Int32} (hs : SX g h a v n byt) : Ct g yJ0_isLatin1_aae02 (.code yJ0_isLatin1_aae02 cJ0_isLatin1_aae02 1 (some .boolean)) 1 0 0 [.ref a] h sz (fun r h' sz' => r = some (.int 1) ∧ h' = h ∧ sz' = sz) noT := by
  refine Ct.mk hG RJ0 rfl (by decide +kernel) rfl (Nat.le_of_ble_eq_true rfl) (fun B hB hX _ => ?_)
  show V g B 0 0 _ h sz 0 [some (.ref a)] []
  refine V.gets (pc := 0) hB (hE.cs) wf_J0_38 dJ0_isLatin1_aae02_0 ?_
  refine V.if_eq (pc := 3) (tgt := 17) hB dJ0_isLatin1_aae02_3 (by decide) (fun c_3 => absurd c_3 (by decide)) (fun c_3 => ?_)
  refine V.aload_n (pc := 6) hB dJ0_isLatin1_aae02_6 rfl ?_
  refine V.sx_coder (pc := 7) hB hs wf_J0_15 dJ0_isLatin1_aae02_7 ?_
  refine V.if_ne (pc := 10) (tgt := 17) hB dJ0_isLatin1_aae02_10 (by decide) (fun c_10 => absurd rfl c_10) (fun c_10 => ?_)
  refine V.iconst (pc := 13) (v := 1) hB dJ0_isLatin1_aae02_13 rfl ?_
  refine V.goto (pc := 14) (tgt := 18) hB dJ0_isLatin1_aae02_14 (by decide) ?_
  exact V.zret (pc := 18) hB dJ0_isLatin1_aae02_18 rfl rfl ⟨rfl, rfl, rfl⟩
set_option maxRecDepth 100000 in
set_option maxHeartbeats 4000000 in
theorem t_J0_coder {g : xG} (hG : GK g) {z : xE} (hE : GE g z) {h : xH} {sz a v n : Nat} {byt : List Int32} (hs : SX g h a v n byt) : Ct g yJ0_coder_7d493 (.code yJ0_coder_7d493 cJ0_coder_7d493 1 (some .byte)) 1 0 0 [.ref a] h sz (fun r h' sz' => r = some (.int 0) ∧ h' = h ∧ sz' = sz) noT := by
  refine Ct.mk hG RJ0 rfl (by decide +kernel) rfl (Nat.le_of_ble_eq_true rfl) (fun B hB hX _ => ?_)
  show V g B 0 0 _ h sz 0 [some (.ref a)] []
  refine V.gets (pc := 0) hB (hE.cs) wf_J0_38 dJ0_coder_7d493_0 ?_
  refine V.if_eq (pc := 3) (tgt := 13) hB dJ0_coder_7d493_3 (by decide) (fun c_3 => absurd c_3 (by decide)) (fun c_3 => ?_)
  refine V.aload_n (pc := 6) hB dJ0_coder_7d493_6 rfl ?_
  refine V.sx_coder (pc := 7) hB hs wf_J0_15 dJ0_coder_7d493_7 ?_
  refine V.goto (pc := 10) (tgt := 14) hB dJ0_coder_7d493_10 (by decide) ?_
  exact V.zret (pc := 14) hB dJ0_coder_7d493_14 rfl rfl ⟨rfl, rfl, rfl⟩
set_option maxRecDepth 100000 in
set_option maxHeartbeats 4000000 in
theorem t_J0_length {g : xG} (hG : GK g) {z : xE} (hE : GE g z) {h : xH} {sz a v n : Nat} {byt : List Int32} (hs : SX g h a v n byt) : Ct g yJ0_length_8abf5 (.code yJ0_length_8abf5 cJ0_length_8abf5 1 (some .int)) 2 0 0 [.ref a] h sz (fun r h' sz' => r = some (.int (nI n)) ∧ h' = h ∧ sz' = sz) noT := by
  refine Ct.mk hG RJ0 rfl (by decide +kernel) rfl (Nat.le_of_ble_eq_true rfl) (fun B hB hX _ => ?_)
  show V g B 0 0 _ h sz 0 [some (.ref a)] []
  refine V.aload_n (pc := 0) hB dJ0_length_8abf5_0 rfl ?_
  refine V.sx_value (pc := 1) hB hs wf_J0_9 dJ0_length_8abf5_1 ?_
  refine V.sx_len (pc := 4) hB hs dJ0_length_8abf5_4 ?_
  refine V.aload_n (pc := 5) hB dJ0_length_8abf5_5 rfl ?_
  refine V.callVR (pc := 6) hB cw_J0_coder_7d493 wm_J0_335 wi_J0_coder_7d493 ws_J0_coder_7d493 dJ0_length_8abf5_6 (by decide) (by decide) (t_J0_coder hG hE hs) (SX.rc hB hs) rfl (by exact Nat.le_of_ble_eq_true rfl) (by omega) (by omega) (fun _ _ _ hf => hf.elim) (fun v9 h' sz' hr => ?_) rfl
  obtain ⟨rfl, rfl, rfl⟩ := hr
  refine V.ishr (pc := 9) hB dJ0_length_8abf5_9 ?_
  exact V.iret (pc := 10) hB dJ0_length_8abf5_10 rfl ⟨congrArg (fun x => some (Value.int x)) (sb_shr0 _), rfl, rfl⟩
set_option maxRecDepth 100000 in
set_option maxHeartbeats 4000000 in
theorem t_J1_charAt {g : xG} (hG : GK g) {z : xE} (hE : GE g z) {h : xH} {sz a v n : Nat} {byt : List Int32} (hs : SX g h a v n byt) {q : Nat} (hq : q < n) : Ct g yJ1_charAt_3b067 (.code yJ1_charAt_3b067 cJ1_charAt_3b067 2 (some .char)) 3 0 0 [.ref v, .int (nI q)] h sz (fun r h' sz' => r = some (.int (byt.getD q 0)) ∧ h' = h ∧ sz' = sz) noT := by
  have hn100 := hs.2.1
  have hch := (hs.2.2.1 q hq).2
  have hnar : narrow .char (.int (byt.getD q 0)) = .int (byt.getD q 0) := by rw [← hch]; exact nar_c16 _
  refine Ct.mk hG RJ1 rfl (by decide +kernel) rfl (Nat.le_of_ble_eq_true rfl) (fun B hB hX _ => ?_)
  show V g B 0 0 _ h sz 0 [some (.ref v), some (.int (nI q))] []
  refine V.iload_n (pc := 0) hB dJ1_charAt_3b067_0 rfl ?_
  refine V.aload_n (pc := 1) hB dJ1_charAt_3b067_1 rfl ?_
  refine V.sx_len (pc := 2) hB hs dJ1_charAt_3b067_2 ?_
  refine V.callS (pc := 3) hB cw_J0_checkIndex_df160 wm_J1_9 wst_J0_checkIndex_df160 dJ1_charAt_3b067_3 (by decide) (by decide) (t_J0_checkIndex hG hE hq (by omega) _ _) rfl (by exact Nat.le_of_ble_eq_true rfl) (by omega) (by omega) (fun _ _ _ hf => hf.elim) (fun v9 h' sz' hr => ?_) rfl
  obtain ⟨rfl, rfl, rfl⟩ := hr
  refine V.aload_n (pc := 6) hB dJ1_charAt_3b067_6 rfl ?_
  refine V.iload_n (pc := 7) hB dJ1_charAt_3b067_7 rfl ?_
  refine V.sx_ld (pc := 8) hB hs hq dJ1_charAt_3b067_8 ?_
  refine V.sipush (pc := 9) (v := 255) hB dJ1_charAt_3b067_9 rfl ?_
  refine V.iand (pc := 12) hB dJ1_charAt_3b067_12 ?_
  refine V.i2c (pc := 13) hB dJ1_charAt_3b067_13 ?_
  rw [hch]
  exact V.zret (pc := 14) hB dJ1_charAt_3b067_14 rfl hnar ⟨rfl, rfl, rfl⟩
set_option maxRecDepth 100000 in
set_option maxHeartbeats 4000000 in
theorem t_J0_charAt {g : xG} (hG : GK g) {z : xE} (hE : GE g z) {h : xH} {sz a v n : Nat} {byt : List Int32} (hs : SX g h a v n byt) {q : Nat} (hq : q < n) : Ct g yJ0_charAt_5068e (.code yJ0_charAt_5068e cJ0_charAt_5068e 2 (some .char)) 4 0 0 [.ref a, .int (nI q)] h sz (fun r h' sz' => r = some (.int (byt.getD q 0)) ∧ h' = h ∧ sz' = sz) noT := by
  have hnar : narrow .char (.int (byt.getD q 0)) = .int (byt.getD q 0) := by rw [← (hs.2.2.1 q hq).2]; exact nar_c16 _
  refine Ct.mk hG RJ0 rfl (by decide +kernel) rfl (Nat.le_of_ble_eq_true rfl) (fun B hB hX _ => ?_)
  show V g B 0 0 _ h sz 0 [some (.ref a), some (.int (nI q))] []
  refine V.aload_n (pc := 0) hB dJ0_charAt_5068e_0 rfl ?_
  refine V.callVR (pc := 1) hB cw_J0_isLatin1_aae02 wm_J0_492 wi_J0_isLatin1_aae02 ws_J0_isLatin1_aae02 dJ0_charAt_5068e_1 (by decide) (by decide) (t_J0_isLatin1 hG hE hs) (SX.rc hB hs) rfl (by exact Nat.le_of_ble_eq_true rfl) (by omega) (by omega) (fun _ _ _ hf => hf.elim) (fun v9 h' sz' hr => ?_) rfl
  obtain ⟨rfl, rfl, rfl⟩ := hr
  refine V.if_eq (pc := 4) (tgt := 16) hB dJ0_charAt_5068e_4 (by decide) (fun c_4 => absurd c_4 (by decide)) (fun c_4 => ?_)
  refine V.aload_n (pc := 7) hB dJ0_charAt_5068e_7 rfl ?_
  refine V.sx_value (pc := 8) hB hs wf_J0_9 dJ0_charAt_5068e_8 ?_
  refine V.iload_n (pc := 11) hB dJ0_charAt_5068e_11 rfl ?_
  refine V.callS (pc := 12) hB cw_J1_charAt_3b067 wm_J0_495 wst_J1_charAt_3b067 dJ0_charAt_5068e_12 (by decide) (by decide) (t_J1_charAt hG hE hs hq) rfl (by exact Nat.le_of_ble_eq_true rfl) (by omega) (by omega) (fun _ _ _ hf => hf.elim) (fun v9 h' sz' hr => ?_) rfl
  obtain ⟨rfl, rfl, rfl⟩ := hr
  exact V.zret (pc := 15) hB dJ0_charAt_5068e_15 rfl hnar ⟨rfl, rfl, rfl⟩
