/-! StringBuilder: room, append, setLength, charAt -/
set_option maxRecDepth 100000 in
set_option maxHeartbeats 1000000 in
theorem c_J5_newCapacity_0f7a4 {g : xG} (hG : GK g) {m : Mem} {n : Nat} (hs : SW g m n) {q : Nat} (hq : m.2.2 < q) (hq9 : q ≤ 90) : CC g yJ5_newCapacity_0f7a4 (.code yJ5_newCapacity_0f7a4 cJ5_newCapacity_0f7a4 6 (some .int)) 3 0 0 [.ref (ad g 360), .int (nI q)] m (rI (fun v m2 => v = nI (m.2.2 + max (q - m.2.2) (m.2.2 + 2)) ∧ m2 = m)) noX := by
  have h2 := hs.2.2.1
  refine CC.mk hG RJ5 rfl (by decide +kernel) rfl (Nat.le_of_ble_eq_true rfl) (fun sz B hB hX => ?_)
  show V g B 0 0 _ (hp g m) sz 0 [some (.ref (ad g 360)), some (.int (nI q)), none, none, none, none] []
  refine V.aload_n (pc := 0) hB dJ5_newCapacity_0f7a4_0 rfl ?_
  refine V.get (pc := 1) hB fk_SB 0 wf_J5_15 dJ5_newCapacity_0f7a4_1 (by decide) (hp_at (ca_SB _)) rfl ?_
  refine V.alen (pc := 4) (t := 4) (v := nI (m).2.2) hB rfl dJ5_newCapacity_0f7a4_4 (hp_sb (SW.none hs)) rfl ?_
  refine V.istore_n (pc := 5) hB dJ5_newCapacity_0f7a4_5 (by decide) rfl ?_
  refine V.iload_n (pc := 6) hB dJ5_newCapacity_0f7a4_6 rfl ?_
  refine V.aload_n (pc := 7) hB dJ5_newCapacity_0f7a4_7 rfl ?_
  refine V.get (pc := 8) hB fk_SB 1 wf_J5_22 dJ5_newCapacity_0f7a4_8 (by decide) (hp_at (ca_SB _)) rfl ?_
  refine V.ishl (pc := 11) hB dJ5_newCapacity_0f7a4_11 ?_
  rw [sb_shl0]
  refine V.istore_n (pc := 12) hB dJ5_newCapacity_0f7a4_12 (by decide) rfl ?_
  refine V.iload_n (pc := 13) hB dJ5_newCapacity_0f7a4_13 rfl ?_
  refine V.iload_n (pc := 14) hB dJ5_newCapacity_0f7a4_14 rfl ?_
  refine V.isub (pc := 15) hB dJ5_newCapacity_0f7a4_15 ?_
  rw [nI_subN (by omega)]
  refine V.istore (pc := 16) hB dJ5_newCapacity_0f7a4_16 (by decide) rfl ?_
  refine V.iload_n (pc := 18) hB dJ5_newCapacity_0f7a4_18 rfl ?_
  refine V.iload (pc := 19) hB dJ5_newCapacity_0f7a4_19 rfl ?_
  refine V.iload_n (pc := 21) hB dJ5_newCapacity_0f7a4_21 rfl ?_
  refine V.iconst (pc := 22) (v := 2) hB dJ5_newCapacity_0f7a4_22 rfl ?_
  refine V.aload_n (pc := 23) hB dJ5_newCapacity_0f7a4_23 rfl ?_
  refine V.get (pc := 24) hB fk_SB 1 wf_J5_22 dJ5_newCapacity_0f7a4_24 (by decide) (hp_at (ca_SB _)) rfl ?_
  refine V.ishl (pc := 27) hB dJ5_newCapacity_0f7a4_27 ?_
  rw [sb_shl0]
  refine V.iadd (pc := 28) hB dJ5_newCapacity_0f7a4_28 ?_
  rw [show nI m.2.2 + 2 = nI (m.2.2 + 2) from nI_add _ 2]
  refine V.cs (pc := 29) hB cw_J8_newLength_cabcc wm_J5_114 wst_J8_newLength_cabcc dJ5_newCapacity_0f7a4_29 (c_J8_newLength_cabcc hG (by omega) (by omega) (by omega) (by omega)) (by omega) (by decide) rfl (by exact Nat.le_of_ble_eq_true rfl) (by omega) (by omega) kN (kI (fun v_29 m_29 sz h_29 => ?_)) rfl
  obtain ⟨rfl, hm_29⟩ := h_29
  obtain rfl := hm_29.symm
  refine V.istore (pc := 32) hB dJ5_newCapacity_0f7a4_32 (by decide) rfl ?_
  refine V.iload (pc := 34) hB dJ5_newCapacity_0f7a4_34 rfl ?_
  refine V.ldcI (pc := 36) (v := 2147483647) hB wk_J5_39 dJ5_newCapacity_0f7a4_36 ?_
  refine V.icmp_ne (pc := 38) (tgt := 51) hB dJ5_newCapacity_0f7a4_38 (by decide) (fun c_38 => ?_) (fun c_38 => ?_)
  · refine V.iload (pc := 51) hB dJ5_newCapacity_0f7a4_51 rfl ?_
    refine V.aload_n (pc := 53) hB dJ5_newCapacity_0f7a4_53 rfl ?_
    refine V.get (pc := 54) hB fk_SB 1 wf_J5_22 dJ5_newCapacity_0f7a4_54 (by decide) (hp_at (ca_SB _)) rfl ?_
    refine V.ishr (pc := 57) hB dJ5_newCapacity_0f7a4_57 ?_
    rw [sb_shr0]
    refine V.retI (pc := 58) hB dJ5_newCapacity_0f7a4_58 rfl (rfl) (by omega) (by omega) ?_
    exact ⟨rfl, rfl⟩
  · exact absurd ((nI_eq (b := 2147483647) (by omega) (by decide)).mp c_38) (by omega)

/-- Arrays.copyOf: a longer row of bytes -/
theorem t_copyOf {g : xG} (hG : GK g) {m : Mem} {n : Nat} (hs : SW g m n) {c : Nat} (hc : m.2.2 < c) (hc2 : c ≤ 200) {sz : Nat} : Ct g yJ7_copyOf_9075b (.code yJ7_copyOf_9075b cJ7_copyOf_9075b 3 (some (.array .byte))) 2 1 c [.ref (ad g m.2.1), .int (nI c)] (hp g m) sz (fun r h' sz' => r = some (.ref sz) ∧ sz' = sz + 1 ∧ h' = hx (hp g m) sz (.inl (g.2.2.1 4, c, .inl (va_cpy (m.1 361) (fun _ => 0) 0 0 m.2.2)))) (fun _ _ _ => False) := by
  have h2 := hs.2.2.1
  refine Ct.mk hG RJ7 rfl (by decide +kernel) rfl (Nat.le_of_ble_eq_true rfl) (fun B hB hX _ => ?_)
  show V g B 0 0 _ (hp g m) sz 0 [some (.ref (ad g m.2.1)), some (.int (nI c)), none] []
  refine V.bound hB (hp_sb (SW.none hs)) (fun hlt hle => ?_)
  have hne : ad g m.2.1 ≠ sz := by omega
  refine V.iload_n (pc := 0) hB dJ7_copyOf_9075b_0 rfl ?_
  refine V.aload_n (pc := 1) hB dJ7_copyOf_9075b_1 rfl ?_
  refine V.alen (pc := 2) (t := 4) (v := nI m.2.2) hB rfl dJ7_copyOf_9075b_2 (hp_sb (SW.none hs)) rfl ?_
  refine V.icmp_ne (pc := 3) (tgt := 14) hB dJ7_copyOf_9075b_3 (by decide) (fun c_3 => ?_) (fun c_3 => absurd ((nI_eq (by omega) (by omega)).mp c_3) (by omega))
  refine V.iload_n (pc := 14) hB dJ7_copyOf_9075b_14 rfl ?_
  refine V.newarr (pc := 15) hB 4 (atype := .byte) (N' := c) (a0 := (c, .inl (fun _ => 0))) war_byte rfl rfl (fun cA => rfl) (nI_pos (by omega)) (nI_clamp (by omega)) (by show c * 1 ≤ 536870912; omega) (by omega) (by omega) dJ7_copyOf_9075b_15 ?_
  refine V.astore_n (pc := 17) hB dJ7_copyOf_9075b_17 (by decide) rfl ?_
  refine V.aload_n (pc := 18) hB dJ7_copyOf_9075b_18 rfl ?_
  refine V.iconst (pc := 19) (v := 0) hB dJ7_copyOf_9075b_19 rfl ?_
  refine V.aload_n (pc := 20) hB dJ7_copyOf_9075b_20 rfl ?_
  refine V.iconst (pc := 21) (v := 0) hB dJ7_copyOf_9075b_21 rfl ?_
  refine V.aload_n (pc := 22) hB dJ7_copyOf_9075b_22 rfl ?_
  have he0 : hx (hp g m) sz (.inl (g.2.2.1 4, c, .inl (fun _ => 0))) (ad g m.2.1) = some (.inl (g.2.2.1 4, m.2.2, .inl (m.1 361))) := (hx_ne _ _ hne).trans (hp_sb (SW.none hs))
  refine V.alen (pc := 23) (t := 4) (v := nI m.2.2) hB rfl dJ7_copyOf_9075b_23 he0 rfl ?_
  refine V.iload_n (pc := 24) hB dJ7_copyOf_9075b_24 rfl ?_
  refine V.callS (pc := 25) hB cw_J9_min_7cf53 wm_J7_304 wst_J9_min_7cf53 dJ7_copyOf_9075b_25 (by decide) (by decide) (t_min hG) rfl (by exact Nat.le_of_ble_eq_true rfl) (by omega) (by omega) (fun _ _ _ hf => hf.elim) (fun v h' sz' hq => ?_) rfl
  obtain ⟨rfl, rfl, rfl⟩ := hq
  rw [minN (by omega) (by omega), Nat.min_eq_left (by omega)]
  refine V.acopy (pc := 28) (t := 4) (ty := .byte) hB wm_J7_150 rfl rfl dJ7_copyOf_9075b_28 he0 (hx_at _ _ _) (by decide) (by decide) (nI_pos (by omega)) (by rw [nI_clamp (by omega)]; exact Nat.le_of_eq (Nat.zero_add _)) (by rw [nI_clamp (by omega), show (0 : Int32).toNatClampNeg = 0 from rfl]; omega) (fun i hi => ?_) (by decide) (by exact Nat.le_of_ble_eq_true rfl) (h' := hx (hp g m) sz (.inl (g.2.2.1 4, c, .inl (va_cpy (m.1 361) (fun _ => 0) 0 0 m.2.2)))) ?_ (fun q hq => (hx_ne _ _ hq).trans (hx_ne _ _ hq).symm) ?_
  · rw [nI_clamp (by omega)] at hi
    have := hs.by i hi
    rwa [show (0 : Int32).toNatClampNeg + i = i from Nat.zero_add i]
  · rw [nI_clamp (by omega)]
    exact hx_at _ _ _
  refine V.aload_n (pc := 31) hB dJ7_copyOf_9075b_31 rfl ?_
  exact V.wid (by omega) (by omega) (V.aret (pc := 32) hB dJ7_copyOf_9075b_32 rfl (Or.inr ⟨_, rfl⟩) ⟨rfl, rfl, rfl⟩)
/-- the builder's memory behind a growth -/
def grM (g : xG) (m : Mem) (sz c : Nat) : Mem := (fun q => if q = 361 then va_cpy (m.1 361) (fun _ => 0) 0 0 m.2.2 else m.1 q, sz - g.1.heap.size, c)
/-- what an append leaves: the text's bytes so far, the rest of the memory -/
def SF (m m2 : Mem) (n : Nat) : Prop := (∀ k, k ≠ 360 → k ≠ 361 → m2.1 k = m.1 k) ∧ ∀ j, j < n → m2.1 361 j = m.1 361 j
theorem SF.refl (m : Mem) (n : Nat) : SF m m n := ⟨fun _ _ _ => rfl, fun _ _ => rfl⟩
theorem SF.trans {m m2 m3 : Mem} {n n2 : Nat} (h : SF m m2 n) (h2 : SF m2 m3 n2) (hn : n ≤ n2) : SF m m3 n := ⟨fun k a b => (h2.1 k a b).trans (h.1 k a b), fun j a => (h2.2 j (by omega)).trans (h.2 j a)⟩

/-- the room behind the heap's end -/
def szOK (g : xG) (sz : Nat) : Prop := g.1.heap.size + 363 ≤ sz
theorem sb_ne {g : xG} {sz : Nat} (h : szOK g sz) : ad g 360 ≠ sz := by unfold szOK at h; unfold ad; omega
theorem gr_SF {g : xG} {m : Mem} {sz c : Nat} : SF m (grM g m sz c) m.2.2 := ⟨fun k a b => if_neg b, fun j hj => by show va_cpy (m.1 361) (fun _ => 0) 0 0 m.2.2 j = m.1 361 j; exact sb_cpy0 hj⟩
theorem gr_SW {g : xG} {m : Mem} {n sz c : Nat} (hs : SW g m n) (hsz : szOK g sz) (hxz : ex g sz = none) (hcm : m.2.2 < c) (hcb : c ≤ 200) : SW g (grM g m sz c) n := by
  unfold szOK at hsz
  refine ⟨hs.1, by show n ≤ c; have := hs.2.1; omega, hcb, Or.inr (by show 363 ≤ sz - g.1.heap.size; omega), fun j hj => ?_, ?_⟩
  · show fits .byte (.int (va_cpy (m.1 361) (fun _ => 0) 0 0 m.2.2 j)) = true
    by_cases hjm : j < m.2.2
    · rw [sb_cpy0 hjm]; exact hs.by j hjm
    · rw [pk_cpy_out (by omega)]; rfl
  · show ex g (ad g (sz - g.1.heap.size)) = none
    rw [show ad g (sz - g.1.heap.size) = sz by unfold ad; omega]
    exact hxz
theorem gr_sub {g : xG} {m : Mem} {n sz c : Nat} (hs : SW g m n) (hsz : szOK g sz) : ∀ (a : Nat) (e : va_E), hp g (grM g m sz c) a = some e → hx (hx (hp g m) sz (.inl (g.2.2.1 4, c, .inl (va_cpy (m.1 361) (fun _ => 0) 0 0 m.2.2)))) (ad g 360) (.inr (9, [.ref sz, .int 0, .int (m.1 360 2), .int (m.1 360 3)])) a = some e := by
  unfold szOK at hsz
  intro a e hae
  have hae2 := hae
  unfold hp at hae
  by_cases hb : a < g.1.heap.size
  · rw [if_pos hb] at hae; cases hae
  · rw [if_neg hb] at hae
    by_cases h360 : a = ad g 360
    · subst h360
      rw [hx_at]
      have h3 := hp_at (ca_SB (g := g) (grM g m sz c))
      rw [h3] at hae2
      rw [← hae2]
      show (some (.inr (9, [Value.ref sz, .int 0, .int (m.1 360 2), .int (m.1 360 3)])) : Option va_E) = some (.inr (9, [.ref (ad g (sz - g.1.heap.size)), .int 0, .int (m.1 360 2), .int (m.1 360 3)]))
      rw [show ad g (sz - g.1.heap.size) = sz by unfold ad; omega]
    · rw [hx_ne _ _ h360]
      by_cases hsa : a = sz
      · subst hsa
        rw [hx_at]
        have hnn : cellAt g (grM g m a c) (a - g.1.heap.size) = none := cell_none (Or.inr (by omega))
        rw [hnn] at hae
        dsimp only at hae
        rw [if_pos (show a - g.1.heap.size = (grM g m a c).2.1 from rfl)] at hae
        rw [← hae]
        rfl
      · rw [hx_ne _ _ hsa]
        unfold hp
        rw [if_neg hb]
        have hv : cellAt g (grM g m sz c) (a - g.1.heap.size) = cellAt g m (a - g.1.heap.size) := cellAt_v (fun z => h360 (by unfold ad; omega)) (fun z => if_neg z)
        rw [hv] at hae
        cases hcell : cellAt g m (a - g.1.heap.size) with
        | some x => rw [hcell] at hae; exact hae
        | none =>
          rw [hcell] at hae
          dsimp only at hae ⊢
          rw [if_neg (show ¬ a - g.1.heap.size = (grM g m sz c).2.1 from fun z => hsa (by have z' : a - g.1.heap.size = sz - g.1.heap.size := z; omega))] at hae
          by_cases hv2 : a - g.1.heap.size = m.2.1
          · have : a = ad g m.2.1 := by unfold ad; omega
            rw [this, hs.nx] at hae
            cases hae
          · rw [if_neg hv2]; exact hae
section VGR
variable {g : xG} {B : BT} {k n0 : Nat} {Q : State → Prop} {m : Mem} {sz pc : Nat} {ls : List (Option Value)} {st : List Value} {cc : ByteArray} {nL : Nat} {own : String} {ret : Option FieldType} {d mc ms : Nat}
theorem V.grB (hB : Bd g B cc nL own ret d mc ms) {n : Nat} (hs : SW g m n) (kk : szOK g sz → ex g sz = none → V g B k n0 Q (hp g m) sz pc ls st) : V g B k n0 Q (hp g m) sz pc ls st := by
  refine V.bound hB (hp_at (ca_Tally m)) (fun hbd hbase => ?_)
  have hsz : szOK g sz := by unfold szOK; unfold ad at hbd; omega
  refine V.bound hB (hp_sb (SW.none hs)) (fun hlt _ => ?_)
  cases hx : ex g sz with
  | none => exact kk hsz hx
  | some e =>
    refine V.bound hB (a := sz) (e := e) ?_ (fun z _ => absurd z (Nat.lt_irrefl _))
    unfold szOK at hsz
    unfold hp
    rw [if_neg (by omega), cell_none (Or.inr (by omega))]
    dsimp only
    rw [if_neg (by unfold ad at hlt; omega)]
    exact hx
end VGR

set_option maxRecDepth 100000 in
set_option maxHeartbeats 1000000 in
theorem c_J5_ensureCapacityInternal_d00df {g : xG} (hG : GK g) {m : Mem} {n : Nat} (hs : SW g m n) {q : Nat} (hq9 : q ≤ 90) : CC g yJ5_ensureCapacityInternal_d00df (.code yJ5_ensureCapacityInternal_d00df cJ5_ensureCapacityInternal_d00df 3 none) 4 1 200 [.ref (ad g 360), .int (nI q)] m (rV (fun m2 => SW g m2 n ∧ q ≤ m2.2.2 ∧ SF m m2 m.2.2)) noX := by
  have h2 := hs.2.2.1
  refine CC.mk hG RJ5 rfl (by decide +kernel) rfl (Nat.le_of_ble_eq_true rfl) (fun sz B hB hX => ?_)
  show V g B 0 0 _ (hp g m) sz 0 [some (.ref (ad g 360)), some (.int (nI q)), none] []
  refine V.aload_n (pc := 0) hB dJ5_ensureCapacityInternal_d00df_0 rfl ?_
  refine V.get (pc := 1) hB fk_SB 0 wf_J5_15 dJ5_ensureCapacityInternal_d00df_1 (by decide) (hp_at (ca_SB _)) rfl ?_
  refine V.alen (pc := 4) (t := 4) (v := nI (m).2.2) hB rfl dJ5_ensureCapacityInternal_d00df_4 (hp_sb (SW.none hs)) rfl ?_
  refine V.aload_n (pc := 5) hB dJ5_ensureCapacityInternal_d00df_5 rfl ?_
  refine V.get (pc := 6) hB fk_SB 1 wf_J5_22 dJ5_ensureCapacityInternal_d00df_6 (by decide) (hp_at (ca_SB _)) rfl ?_
  refine V.ishr (pc := 9) hB dJ5_ensureCapacityInternal_d00df_9 ?_
  rw [sb_shr0]
  refine V.istore_n (pc := 10) hB dJ5_ensureCapacityInternal_d00df_10 (by decide) rfl ?_
  refine V.iload_n (pc := 11) hB dJ5_ensureCapacityInternal_d00df_11 rfl ?_
  refine V.iload_n (pc := 12) hB dJ5_ensureCapacityInternal_d00df_12 rfl ?_
  refine V.isub (pc := 13) hB dJ5_ensureCapacityInternal_d00df_13 ?_
  have hdec : nI q - nI m.2.2 ≤ 0 ↔ q ≤ m.2.2 := by rw [Int32.le_iff_toInt_le, pk_sub_toInt (by omega) (by omega), Int32.toInt_zero]; omega
  refine V.if_le (pc := 14) (tgt := 38) hB dJ5_ensureCapacityInternal_d00df_14 (by decide) (fun c_14 => ?_) (fun c_14 => ?_)
  · have hle := hdec.mp c_14
    refine V.retV (pc := 38) hB dJ5_ensureCapacityInternal_d00df_38 rfl (by omega) (by omega) ?_
    exact ⟨hs, hle, SF.refl _ _⟩
  · have hgt : m.2.2 < q := Nat.not_le.mp (fun z => c_14 (hdec.mpr z))
    refine V.aload_n (pc := 17) hB dJ5_ensureCapacityInternal_d00df_17 rfl ?_
    refine V.aload_n (pc := 18) hB dJ5_ensureCapacityInternal_d00df_18 rfl ?_
    refine V.get (pc := 19) hB fk_SB 0 wf_J5_15 dJ5_ensureCapacityInternal_d00df_19 (by decide) (hp_at (ca_SB _)) rfl ?_
    refine V.aload_n (pc := 22) hB dJ5_ensureCapacityInternal_d00df_22 rfl ?_
    refine V.iload_n (pc := 23) hB dJ5_ensureCapacityInternal_d00df_23 rfl ?_
    refine V.cp (pc := 24) (C := RJ4) hB cw_J5_newCapacity_0f7a4 wm_J5_104 wsm_J5_newCapacity_0f7a4 wpr_J5_newCapacity_0f7a4 wi_J5_newCapacity_0f7a4 dJ5_ensureCapacityInternal_d00df_24 (c_J5_newCapacity_0f7a4 hG hs hgt hq9) (RC.hp hB (hp_at (ca_SB _)) rfl) (by omega) (by decide) rfl (by exact Nat.le_of_ble_eq_true rfl) (by omega) (by omega) (kI (fun v_24 m_24 sz h_24 => ?_)) rfl
    obtain ⟨rfl, hm_24⟩ := h_24
    obtain rfl := hm_24.symm
    refine V.aload_n (pc := 27) hB dJ5_ensureCapacityInternal_d00df_27 rfl ?_
    refine V.get (pc := 28) hB fk_SB 1 wf_J5_22 dJ5_ensureCapacityInternal_d00df_28 (by decide) (hp_at (ca_SB _)) rfl ?_
    refine V.ishl (pc := 31) hB dJ5_ensureCapacityInternal_d00df_31 ?_
    rw [sb_shl0]
    have hcb : m.2.2 + max (q - m.2.2) (m.2.2 + 2) ≤ 200 := by omega
    obtain ⟨c, hc⟩ : ∃ c, c = m.2.2 + max (q - m.2.2) (m.2.2 + 2) := ⟨_, rfl⟩
    rw [← hc] at hcb ⊢
    have hcm : m.2.2 < c := by omega
    have hcq : q ≤ c := by omega
    refine V.grB hB hs (fun hsz hxz => ?_)
    refine V.callS (pc := 32) hB cw_J7_copyOf_9075b wm_J5_108 wst_J7_copyOf_9075b dJ5_ensureCapacityInternal_d00df_32 (by decide) (by decide) (t_copyOf hG hs hcm hcb) rfl (by exact Nat.le_of_ble_eq_true rfl) (by omega) (by omega) (fun _ _ _ hf => hf.elim) (fun v h' sz' hq => ?_) rfl
    obtain ⟨rfl, rfl, rfl⟩ := hq
    refine V.put (pc := 35) hB fk_SB 0 wf_J5_15 dJ5_ensureCapacityInternal_d00df_35 (by decide) rfl ((hx_ne _ _ (sb_ne hsz)).trans (hp_at (ca_SB m))) (Nat.le_of_ble_eq_true rfl) rfl rfl (h' := hx (hx (hp g m) sz (.inl (g.2.2.1 4, c, .inl (va_cpy (m.1 361) (fun _ => 0) 0 0 m.2.2)))) (ad g 360) (.inr (9, [.ref sz, .int 0, .int (m.1 360 2), .int (m.1 360 3)]))) (hx_at _ _ _) (fun q hq => hx_ne _ _ hq) ?_
    refine V.sub (h' := hp g (grM g m sz c)) (gr_sub hs hsz) (fun _ _ h => h) ?_
    have hfin : SW g (grM g m sz c) n ∧ q ≤ (grM g m sz c).2.2 ∧ SF m (grM g m sz c) m.2.2 := ⟨gr_SW hs hsz hxz hcm hcb, hcq, gr_SF⟩
    exact V.retV (pc := 38) hB dJ5_ensureCapacityInternal_d00df_38 rfl (by omega) (by omega) hfin

set_option maxRecDepth 100000 in
set_option maxHeartbeats 1000000 in
theorem c_J5_isLatin1_aae02 {g : xG} (hG : GK g) {z : xE} (hE : GE g z) {m : Mem} : CC g yJ5_isLatin1_aae02 (.code yJ5_isLatin1_aae02 cJ5_isLatin1_aae02 1 (some .boolean)) 1 0 0 [.ref (ad g 360)] m (rI (fun v m2 => v = 1 ∧ m2 = m)) noX := by
  refine CC.mk hG RJ5 rfl (by decide +kernel) rfl (Nat.le_of_ble_eq_true rfl) (fun sz B hB hX => ?_)
  show V g B 0 0 _ (hp g m) sz 0 [some (.ref (ad g 360))] []
  refine V.gets (pc := 0) hB (hE.cs) wf_J5_18 dJ5_isLatin1_aae02_0 ?_
  refine V.if_eq (pc := 3) (tgt := 17) hB dJ5_isLatin1_aae02_3 (by decide) (fun c_3 => ?_) (fun c_3 => ?_)
  · exact absurd c_3 (by decide)
  · refine V.aload_n (pc := 6) hB dJ5_isLatin1_aae02_6 rfl ?_
    refine V.get (pc := 7) hB fk_SB 1 wf_J5_22 dJ5_isLatin1_aae02_7 (by decide) (hp_at (ca_SB _)) rfl ?_
    refine V.if_ne (pc := 10) (tgt := 17) hB dJ5_isLatin1_aae02_10 (by decide) (fun c_10 => ?_) (fun c_10 => ?_)
    · exact absurd rfl c_10
    · refine V.iconst (pc := 13) (v := 1) hB dJ5_isLatin1_aae02_13 rfl ?_
      refine V.goto (pc := 14) (tgt := 18) hB dJ5_isLatin1_aae02_14 (by decide) ?_
      refine V.retI (pc := 18) hB dJ5_isLatin1_aae02_18 rfl (rfl) (by omega) (by omega) ?_
      exact ⟨rfl, rfl⟩

set_option maxRecDepth 100000 in
set_option maxHeartbeats 1000000 in
theorem c_J1_canEncode_fc78d {g : xG} (hG : GK g) {c : Nat} (hc : c < 128) {m : Mem} : CC g yJ1_canEncode_fc78d (.code yJ1_canEncode_fc78d cJ1_canEncode_fc78d 1 (some .boolean)) 1 0 0 [.int (nI c)] m (rI (fun v m2 => v = 1 ∧ m2 = m)) noX := by
  refine CC.mk hG RJ1 rfl (by decide +kernel) rfl (Nat.le_of_ble_eq_true rfl) (fun sz B hB hX => ?_)
  show V g B 0 0 _ (hp g m) sz 0 [some (.int (nI c))] []
  refine V.iload_n (pc := 0) hB dJ1_canEncode_fc78d_0 rfl ?_
  refine V.sipush (pc := 1) (v := 255) hB dJ1_canEncode_fc78d_1 rfl ?_
  refine V.icmp_gt (pc := 4) (tgt := 11) hB dJ1_canEncode_fc78d_4 (by decide) (fun c_4 => ?_) (fun c_4 => ?_)
  · exact absurd c_4 (nI_nlt (a := 255) (b := c) (by omega) (by decide))
  · refine V.iconst (pc := 7) (v := 1) hB dJ1_canEncode_fc78d_7 rfl ?_
    refine V.goto (pc := 8) (tgt := 12) hB dJ1_canEncode_fc78d_8 (by decide) ?_
    refine V.retI (pc := 12) hB dJ1_canEncode_fc78d_12 rfl (rfl) (by omega) (by omega) ?_
    exact ⟨rfl, rfl⟩

theorem SF.mono {m m2 : Mem} {n n2 : Nat} (h : SF m m2 n) (hn : n2 ≤ n) : SF m m2 n2 := ⟨h.1, fun j a => h.2 j (by omega)⟩
theorem SW.push {g : xG} {m : Mem} {n c : Nat} (hs : SW g m n) (h : n < m.2.2) (hc : c < 128) : SW g (up (up m 360 3 (nI (n + 1))) 361 n (nI c)) (n + 1) ∧ SF m (up (up m 360 3 (nI (n + 1))) 361 n (nI c)) n ∧ (up (up m 360 3 (nI (n + 1))) 361 n (nI c)).1 361 n = nI c := by
  refine ⟨⟨?_, h, hs.2.2.1, hs.2.2.2.1, fun j hj => ?_, hs.nx⟩, ⟨fun k a b => by rw [up_cell _ _ _ b, up_cell _ _ _ a], fun j hj => by rw [up_slot _ _ _ (by omega), up_cell _ _ _ (by decide)]⟩, up_same _ _ _ _⟩
  · rw [up_cell _ _ _ (by decide), up_same]
  · by_cases e : j = n
    · subst e; rw [up_same]; exact fits_b c hc
    · rw [up_slot _ _ _ e, up_cell _ _ _ (by decide)]; exact hs.by j hj
/-- a byte put among the builder's -/
theorem SW.put {g : xG} {m : Mem} {n q c : Nat} (hs : SW g m n) (_h : q < m.2.2) (hc : c < 128) : SW g (up m 361 q (nI c)) n := by
  refine ⟨?_, hs.2.1, hs.2.2.1, hs.2.2.2.1, fun j hj => ?_, hs.nx⟩
  · rw [up_cell _ _ _ (by decide)]; exact hs.1
  · by_cases e : j = q
    · subst e; rw [up_same]; exact fits_b c hc
    · rw [up_slot _ _ _ e]; exact hs.by j hj

set_option maxRecDepth 100000 in
set_option maxHeartbeats 1000000 in
theorem c_J5_append_3fe6f {g : xG} (hG : GK g) {z : xE} (hE : GE g z) {m : Mem} {n : Nat} (hs : SW g m n) (hn : n < 80) {c : Nat} (hc : c < 128) : CC g yJ5_append_3fe6f (.code yJ5_append_3fe6f cJ5_append_3fe6f 2 (some (.object "java/lang/AbstractStringBuilder"))) 5 1 200 [.ref (ad g 360), .int (nI c)] m (rR g (fun a m2 => a = 360 ∧ SW g m2 (n + 1) ∧ SF m m2 n ∧ m2.1 361 n = nI c)) noX := by
  have h2 := hs.2.2.1
  refine CC.mk hG RJ5 rfl (by decide +kernel) rfl (Nat.le_of_ble_eq_true rfl) (fun sz B hB hX => ?_)
  show V g B 0 0 _ (hp g m) sz 0 [some (.ref (ad g 360)), some (.int (nI c))] []
  refine V.aload_n (pc := 0) hB dJ5_append_3fe6f_0 rfl ?_
  refine V.aload_n (pc := 1) hB dJ5_append_3fe6f_1 rfl ?_
  refine V.get (pc := 2) hB fk_SB 3 wf_J5_79 dJ5_append_3fe6f_2 (by decide) (hp_at (ca_SB _)) rfl ?_
  rw [hs.1]
  refine V.iconst (pc := 5) (v := 1) hB dJ5_append_3fe6f_5 rfl ?_
  refine V.iadd (pc := 6) hB dJ5_append_3fe6f_6 ?_
  rw [nI1]
  refine V.cp (pc := 7) (C := RJ4) hB cw_J5_ensureCapacityInternal_d00df wm_J5_100 wsm_J5_ensureCapacityInternal_d00df wpr_J5_ensureCapacityInternal_d00df wi_J5_ensureCapacityInternal_d00df dJ5_append_3fe6f_7 (c_J5_ensureCapacityInternal_d00df hG hs (by omega)) (RC.hp hB (hp_at (ca_SB _)) rfl) (by omega) (by decide) rfl (by exact Nat.le_of_ble_eq_true rfl) (by omega) (by omega) (kV (fun m_7 sz h_7 => ?_)) rfl
  obtain ⟨hs2, hcap, hF⟩ := h_7
  refine V.aload_n (pc := 10) hB dJ5_append_3fe6f_10 rfl ?_
  refine V.cu (pc := 11) (C := RJ4) hB cw_J5_isLatin1_aae02 wm_J5_83 wsm_J5_isLatin1_aae02 ⟨rfl, rfl⟩ wi_J5_isLatin1_aae02 wse_J5_isLatin1_aae02 dJ5_append_3fe6f_11 (c_J5_isLatin1_aae02 hG hE) (RC.hp hB (hp_at (ca_SB _)) rfl) (by omega) (by decide) rfl (by exact Nat.le_of_ble_eq_true rfl) (by omega) (by omega) (kI (fun v_11 m_11 sz h_11 => ?_)) rfl
  obtain ⟨rfl, hm_11⟩ := h_11
  obtain rfl := hm_11.symm
  refine V.if_eq (pc := 14) (tgt := 45) hB dJ5_append_3fe6f_14 (by decide) (fun c_14 => ?_) (fun c_14 => ?_)
  · exact absurd c_14 (by decide)
  · refine V.iload_n (pc := 17) hB dJ5_append_3fe6f_17 rfl ?_
    refine V.cs (pc := 18) hB cw_J1_canEncode_fc78d wm_J5_191 wst_J1_canEncode_fc78d dJ5_append_3fe6f_18 (c_J1_canEncode_fc78d hG hc) (by omega) (by decide) rfl (by exact Nat.le_of_ble_eq_true rfl) (by omega) (by omega) kN (kI (fun v_18 m_18 sz h_18 => ?_)) rfl
    obtain ⟨rfl, hm_18⟩ := h_18
    obtain rfl := hm_18.symm
    refine V.if_eq (pc := 21) (tgt := 45) hB dJ5_append_3fe6f_21 (by decide) (fun c_21 => ?_) (fun c_21 => ?_)
    · exact absurd c_21 (by decide)
    · refine V.aload_n (pc := 24) hB dJ5_append_3fe6f_24 rfl ?_
      refine V.get (pc := 25) hB fk_SB 0 wf_J5_15 dJ5_append_3fe6f_25 (by decide) (hp_at (ca_SB _)) rfl ?_
      refine V.aload_n (pc := 28) hB dJ5_append_3fe6f_28 rfl ?_
      refine V.dup (pc := 29) hB dJ5_append_3fe6f_29 rfl ?_
      refine V.get (pc := 30) hB fk_SB 3 wf_J5_79 dJ5_append_3fe6f_30 (by decide) (hp_at (ca_SB _)) rfl ?_
      rw [hs2.1]
      refine V.dup_x1 (pc := 33) hB dJ5_append_3fe6f_33 rfl rfl ?_
      refine V.iconst (pc := 34) (v := 1) hB dJ5_append_3fe6f_34 rfl ?_
      refine V.iadd (pc := 35) hB dJ5_append_3fe6f_35 ?_
      rw [nI1]
      refine V.p_SB_count (pc := 36) hB wf_J5_79 dJ5_append_3fe6f_36 ?_
      refine V.iload_n (pc := 39) hB dJ5_append_3fe6f_39 rfl ?_
      refine V.i2b (pc := 40) hB dJ5_append_3fe6f_40 ?_
      rw [i8_b c hc]
      refine V.bastSB (pc := 41) hB dJ5_append_3fe6f_41 (cell_none hs2.2.2.2.1) (ix_nI (show n < m_7.2.2 by omega) (by have := hs2.2.2.1; show m_7.2.2 < 2 ^ 31; omega)) (nar_b c hc) ?_
      refine V.goto (pc := 42) (tgt := 75) hB dJ5_append_3fe6f_42 (by decide) ?_
      refine V.aload_n (pc := 75) hB dJ5_append_3fe6f_75 rfl ?_
      refine V.retR (pc := 76) hB dJ5_append_3fe6f_76 rfl (Or.inl ⟨_, rfl⟩) (by omega) (by omega) ?_
      have hp := hs2.push (show n < m_7.2.2 by omega) hc
      exact ⟨rfl, hp.1, SF.trans (hF.mono hs.2.1) hp.2.1 (Nat.le_refl n), hp.2.2⟩

set_option maxRecDepth 100000 in
set_option maxHeartbeats 1000000 in
theorem c_J4_append_cf468 {g : xG} (hG : GK g) {z : xE} (hE : GE g z) {m : Mem} {n : Nat} (hs : SW g m n) (hn : n < 80) {c : Nat} (hc : c < 128) : CC g yJ4_append_cf468 (.code yJ4_append_cf468 cJ4_append_cf468 2 (some (.object "java/lang/StringBuilder"))) 6 1 200 [.ref (ad g 360), .int (nI c)] m (rR g (fun a m2 => a = 360 ∧ SW g m2 (n + 1) ∧ SF m m2 n ∧ m2.1 361 n = nI c)) noX := by
  refine CC.mk hG RJ4 rfl (by decide +kernel) rfl (Nat.le_of_ble_eq_true rfl) (fun sz B hB hX => ?_)
  show V g B 0 0 _ (hp g m) sz 0 [some (.ref (ad g 360)), some (.int (nI c))] []
  refine V.aload_n (pc := 0) hB dJ4_append_cf468_0 rfl ?_
  refine V.iload_n (pc := 1) hB dJ4_append_cf468_1 rfl ?_
  refine V.csu (pc := 2) (C := RJ4) hB (ci := 9) rfl cw_J5_append_3fe6f wm_J4_50 wsm_J5_append_3fe6f wsp_J4 (by decide +kernel) wi_J5_append_3fe6f dJ4_append_cf468_2 (c_J5_append_3fe6f hG hE hs hn hc) (RC.hp hB (hp_at (ca_SB _)) rfl) (by omega) (by decide) rfl (by exact Nat.le_of_ble_eq_true rfl) (by omega) (by omega) (kR (fun v_2 m_2 sz h_2 => ?_)) rfl
  obtain ⟨rfl, hq2, hq3, hq4⟩ := h_2
  refine V.pop (pc := 5) hB dJ4_append_cf468_5 rfl ?_
  refine V.aload_n (pc := 6) hB dJ4_append_cf468_6 rfl ?_
  refine V.retR (pc := 7) hB dJ4_append_cf468_7 rfl (Or.inl ⟨_, rfl⟩) (by omega) (by omega) ?_
  exact ⟨rfl, hq2, hq3, hq4⟩

/-- a number's letters -/
def dgI (a : Nat) : List Int32 := if a < 10 then [nI (48 + a)] else [nI (48 + a / 10), nI (48 + a % 10)]
def txtI (v : Int32) : List Int32 := if v < 0 then 45 :: dgI (-v).toNatClampNeg else dgI v.toNatClampNeg
theorem neg_neg32 (x : Int32) : - -x = x := by
  apply Int32.toBitVec_inj.mp
  simp
theorem negI {a : Nat} (ha : a ≤ 1000) : (-(nI a)).toInt = -(a : Int) := by
  have h : (nI 0 - nI a).toInt = ((0 : Nat) : Int) - (a : Int) := pk_sub_toInt (by omega) (by omega)
  rw [show -(nI a) = nI 0 - nI a by rw [nI_0]; apply Int32.toBitVec_inj.mp; simp]
  rw [h]; omega
theorem negI_le {a b : Nat} (ha : a ≤ 1000) (hb : b ≤ 1000) : -(nI a) ≤ -(nI b) ↔ b ≤ a := by
  rw [Int32.le_iff_toInt_le, negI ha, negI hb]; omega
theorem negI_lt {a b : Nat} (ha : a ≤ 1000) (hb : b ≤ 1000) : -(nI a) < -(nI b) ↔ b < a := by
  rw [Int32.lt_iff_toInt_lt, negI ha, negI hb]; omega
/-- a number between -99 and 99: its size and its sign -/
def n99 (a : Nat) (v : Int32) : Prop := (v = nI a ∧ ¬ v < 0) ∨ (v = -(nI a) ∧ v < 0 ∧ 0 < a)
theorem num99 {v : Int32} (h1 : -99 ≤ v) (h2 : v ≤ 99) : ∃ a, a ≤ 99 ∧ n99 a v := by
  by_cases h : v < 0
  · have e1 : -99 ≤ v.toInt := Int32.le_iff_toInt_le.mp h1
    have e2 : v.toInt < 0 := Int32.lt_iff_toInt_lt.mp h
    have hn : (-v).toInt = -v.toInt := by
      rw [Int32.toInt_neg]
      exact Int.bmod_eq_of_le (by omega) (by omega)
    have h0 : ¬ -v < 0 := by
      rw [Int32.lt_iff_toInt_lt, hn, Int32.toInt_zero]; omega
    obtain ⟨j, hj, hj2⟩ := nI_of h0
    have hjv : (j : Int) = -v.toInt := by rw [← hn, hj2, nI_toInt hj]
    exact ⟨j, by omega, Or.inr ⟨by rw [← hj2, neg_neg32], h, by omega⟩⟩
  · obtain ⟨j, hj, rfl⟩ := nI_of h
    exact ⟨j, (nI_leI (b := 99) hj (by decide)).mp h2, Or.inl ⟨rfl, h⟩⟩
theorem txt_neg {a : Nat} {v : Int32} (h : v = -(nI a)) (hv : v < 0) (ha : a ≤ 99) : txtI v = 45 :: dgI a := by
  unfold txtI; rw [if_pos hv, h, neg_neg32, nI_clamp (by omega)]
theorem txt_pos {a : Nat} {v : Int32} (h : v = nI a) (hv : ¬ v < 0) (ha : a ≤ 99) : txtI v = dgI a := by
  unfold txtI; rw [if_neg hv, h, nI_clamp (by omega)]
theorem dg_len (a : Nat) : (dgI a).length = if a < 10 then 1 else 2 := by unfold dgI; split <;> rfl

set_option maxRecDepth 100000 in
set_option maxHeartbeats 1000000 in
theorem c_J6_stringSize_0f7a4 {g : xG} (hG : GK g) {a : Nat} (ha : a ≤ 99) {v : Int32} (hv : n99 a v) {m : Mem} : CC g yJ6_stringSize_0f7a4 (.code yJ6_stringSize_0f7a4 cJ6_stringSize_0f7a4 4 (some .int)) 2 0 0 [.int v] m (rI (fun r m2 => r = nI (txtI v).length ∧ m2 = m)) noX := by
  refine CC.mk hG RJ6 rfl (by decide +kernel) rfl (Nat.le_of_ble_eq_true rfl) (fun sz B hB hX => ?_)
  show V g B 0 0 _ (hp g m) sz 0 [some (.int v), none, none, none] []
  have L2 : 10 ≤ a → ∀ dd : Nat, ∀ (sz : Nat), V g B 0 0 (QM g B 0 0 (rI (fun r m2 => r = nI (dd + (dgI a).length) ∧ m2 = m)) noX) (hp g (m)) sz 16 [some (.int (-(nI a))), some (.int (nI dd)), some (.int (-100)), some (.int 2)] [] := by
    intro hge dd sz
    refine V.iload_n (pc := 16) hB dJ6_stringSize_0f7a4_16 rfl ?_
    refine V.bipush (pc := 17) (v := 10) hB dJ6_stringSize_0f7a4_17 rfl ?_
    refine V.icmp_ge (pc := 19) (tgt := 42) hB dJ6_stringSize_0f7a4_19 (by decide) (fun c_19 => ?_) (fun c_19 => ?_)
    · exact absurd c_19 (by decide)
    · refine V.iload_n (pc := 22) hB dJ6_stringSize_0f7a4_22 rfl ?_
      refine V.iload_n (pc := 23) hB dJ6_stringSize_0f7a4_23 rfl ?_
      refine V.icmp_le (pc := 24) (tgt := 31) hB dJ6_stringSize_0f7a4_24 (by decide) (fun c_24 => ?_) (fun c_24 => ?_)
      · exact absurd ((negI_le (b := 100) (by omega) (by decide)).mp c_24) (by omega)
      · have h10 : 10 ≤ a := hge
        refine V.iload_n (pc := 27) hB dJ6_stringSize_0f7a4_27 rfl ?_
        refine V.iload_n (pc := 28) hB dJ6_stringSize_0f7a4_28 rfl ?_
        refine V.iadd (pc := 29) hB dJ6_stringSize_0f7a4_29 ?_
        refine V.retI (pc := 30) hB dJ6_stringSize_0f7a4_30 rfl (rfl) (by omega) (by omega) ?_
        refine ⟨?_, rfl⟩
        rw [dg_len, if_neg (by omega)]
        show (2 : Int32) + nI dd = _
        rw [show (2 : Int32) = nI 2 from rfl, nI_add, Nat.add_comm]
  have L1 : ∀ dd : Nat, ∀ (sz : Nat), V g B 0 0 (QM g B 0 0 (rI (fun r m2 => r = nI (dd + (dgI a).length) ∧ m2 = m)) noX) (hp g (m)) sz 16 [some (.int (-(nI a))), some (.int (nI dd)), some (.int (-10)), some (.int 1)] [] := by
    intro dd sz
    refine V.iload_n (pc := 16) hB dJ6_stringSize_0f7a4_16 rfl ?_
    refine V.bipush (pc := 17) (v := 10) hB dJ6_stringSize_0f7a4_17 rfl ?_
    refine V.icmp_ge (pc := 19) (tgt := 42) hB dJ6_stringSize_0f7a4_19 (by decide) (fun c_19 => ?_) (fun c_19 => ?_)
    · exact absurd c_19 (by decide)
    · refine V.iload_n (pc := 22) hB dJ6_stringSize_0f7a4_22 rfl ?_
      refine V.iload_n (pc := 23) hB dJ6_stringSize_0f7a4_23 rfl ?_
      refine V.icmp_le (pc := 24) (tgt := 31) hB dJ6_stringSize_0f7a4_24 (by decide) (fun c_24 => ?_) (fun c_24 => ?_)
      · have hge : 10 ≤ a := (negI_le (b := 10) (by omega) (by decide)).mp c_24
        refine V.bipush (pc := 31) (v := 10) hB dJ6_stringSize_0f7a4_31 rfl ?_
        refine V.iload_n (pc := 33) hB dJ6_stringSize_0f7a4_33 rfl ?_
        refine V.imul (pc := 34) hB dJ6_stringSize_0f7a4_34 ?_
        rw [show (10 : Int32) * (-10) = -100 by decide]
        refine V.istore_n (pc := 35) hB dJ6_stringSize_0f7a4_35 (by decide) rfl ?_
        refine V.iinc (pc := 36) (v := 2) hB dJ6_stringSize_0f7a4_36 rfl (by decide) (by decide) rfl ?_
        refine V.goto (pc := 39) (tgt := 16) hB dJ6_stringSize_0f7a4_39 (by decide) ?_
        exact L2 hge dd sz
      · have hlt : ¬ 10 ≤ a := fun z => c_24 ((negI_le (b := 10) (by omega) (by decide)).mpr z)
        refine V.iload_n (pc := 27) hB dJ6_stringSize_0f7a4_27 rfl ?_
        refine V.iload_n (pc := 28) hB dJ6_stringSize_0f7a4_28 rfl ?_
        refine V.iadd (pc := 29) hB dJ6_stringSize_0f7a4_29 ?_
        refine V.retI (pc := 30) hB dJ6_stringSize_0f7a4_30 rfl (rfl) (by omega) (by omega) ?_
        refine ⟨?_, rfl⟩
        rw [dg_len, if_pos (by omega)]
        show (1 : Int32) + nI dd = _
        rw [show (1 : Int32) = nI 1 from rfl, nI_add, Nat.add_comm]
  refine V.iconst (pc := 0) (v := 1) hB dJ6_stringSize_0f7a4_0 rfl ?_
  refine V.istore_n (pc := 1) hB dJ6_stringSize_0f7a4_1 (by decide) rfl ?_
  refine V.iload_n (pc := 2) hB dJ6_stringSize_0f7a4_2 rfl ?_
  refine V.if_lt (pc := 3) (tgt := 11) hB dJ6_stringSize_0f7a4_3 (by decide) (fun c_3 => ?_) (fun c_3 => ?_)
  · have hva : v = -(nI a) := hv.elim (fun z => absurd c_3 z.2) (fun z => z.1)
    rw [txt_neg hva c_3 ha, hva]
    rw [show (45 :: dgI a).length = 1 + (dgI a).length by rw [List.length_cons]; omega]
    have L := L1 1
    refine V.bipush (pc := 11) (v := (-10)) hB dJ6_stringSize_0f7a4_11 rfl ?_
    refine V.istore_n (pc := 13) hB dJ6_stringSize_0f7a4_13 (by decide) rfl ?_
    refine V.iconst (pc := 14) (v := 1) hB dJ6_stringSize_0f7a4_14 rfl ?_
    refine V.istore_n (pc := 15) hB dJ6_stringSize_0f7a4_15 (by decide) rfl ?_
    exact L sz
  · have hva : v = nI a := hv.elim (fun z => z.1) (fun z => absurd z.2.1 c_3)
    rw [txt_pos hva c_3 ha, hva]
    rw [show (dgI a).length = 0 + (dgI a).length by omega]
    have L := L1 0
    refine V.iconst (pc := 6) (v := 0) hB dJ6_stringSize_0f7a4_6 rfl ?_
    refine V.istore_n (pc := 7) hB dJ6_stringSize_0f7a4_7 (by decide) rfl ?_
    refine V.iload_n (pc := 8) hB dJ6_stringSize_0f7a4_8 rfl ?_
    refine V.ineg (pc := 9) hB dJ6_stringSize_0f7a4_9 ?_
    refine V.istore_n (pc := 10) hB dJ6_stringSize_0f7a4_10 (by decide) rfl ?_
    refine V.bipush (pc := 11) (v := (-10)) hB dJ6_stringSize_0f7a4_11 rfl ?_
    refine V.istore_n (pc := 13) hB dJ6_stringSize_0f7a4_13 (by decide) rfl ?_
    refine V.iconst (pc := 14) (v := 1) hB dJ6_stringSize_0f7a4_14 rfl ?_
    refine V.istore_n (pc := 15) hB dJ6_stringSize_0f7a4_15 (by decide) rfl ?_
    exact L sz

/-- the letters of a number stand ahead of the place e -/
def GC (g : xG) (m m2 : Mem) (n e : Nat) (l : List Int32) : Prop := SW g m2 n ∧ (∀ k, k ≠ 361 → m2.1 k = m.1 k) ∧ m2.2 = m.2 ∧ (∀ j, j < e - l.length → m2.1 361 j = m.1 361 j) ∧ ∀ j, j < l.length → m2.1 361 (e - l.length + j) = l.getD j 0
theorem GC.nil {g : xG} {m : Mem} {n e : Nat} (h : SW g m n) : GC g m m n e [] := ⟨h, fun _ _ => rfl, rfl, fun _ _ => rfl, fun j h => absurd h (Nat.not_lt_zero j)⟩
theorem GC.cons {g : xG} {m m2 : Mem} {n e c : Nat} {l : List Int32} (h : GC g m m2 n e l) (hl : l.length < e) (he : e ≤ m.2.2) (hc : c < 128) : GC g m (up m2 361 (e - l.length - 1) (nI c)) n e (nI c :: l) := by
  obtain ⟨h1, h2, h3, h4, h5⟩ := h
  refine ⟨h1.put (by rw [h3]; omega) hc, fun k a => by rw [up_cell _ _ _ a]; exact h2 k a, h3, fun j hj => ?_, fun j hj => ?_⟩
  · have hj' : j < e - (l.length + 1) := hj
    rw [up_slot _ _ _ (by omega)]
    exact h4 j (by omega)
  · have hj' : j < l.length + 1 := hj
    show (up m2 361 (e - l.length - 1) (nI c)).1 361 (e - (l.length + 1) + j) = _
    cases j with
    | zero => rw [show e - (l.length + 1) + 0 = e - l.length - 1 by omega, up_same]; rfl
    | succ j =>
      rw [up_slot _ _ _ (by omega), show e - (l.length + 1) + (j + 1) = e - l.length + j by omega]
      exact h5 j (by omega)

theorem dec1 {x : Nat} (h : 0 < x) : nI x + -1 = nI (x - 1) := by
  obtain ⟨y, rfl⟩ : ∃ y, x = y + 1 := ⟨x - 1, by omega⟩
  rw [Nat.add_sub_cancel, ← nI_pred y]
  apply Int32.toBitVec_inj.mp
  simp [Int32.toBitVec_sub, BitVec.sub_eq_add_neg]

set_option maxRecDepth 100000 in
set_option maxHeartbeats 1000000 in
theorem c_getChars_pos {g : xG} (hG : GK g) {z : xE} (hE : GE g z) {m : Mem} {n : Nat} (hs : SW g m n) {a : Nat} (ha : a ≤ 99) (hv0 : ¬ (nI a) < 0) {e : Nat} (hem : e ≤ m.2.2) (he3 : (dgI a).length ≤ e) : CC g yJ6_getChars_ba4f3 (.code yJ6_getChars_ba4f3 cJ6_getChars_ba4f3 7 (some .int)) 1 0 0 [.int (nI a), .int (nI e), .ref (ad g m.2.1)] m (rI (fun _ m2 => GC g m m2 n e (dgI a))) noX := by
  have h2 := hs.2.2.1
  have hdl := dg_len a
  have hd2 : (dgI a).length ≤ 2 ∧ 1 ≤ (dgI a).length := by rw [hdl]; split <;> omega
  refine CC.mk hG RJ6 rfl (by decide +kernel) rfl (Nat.le_of_ble_eq_true rfl) (fun sz B hB hX => ?_)
  show V g B 0 0 _ (hp g m) sz 0 [some (.int (nI a)), some (.int (nI e)), some (.ref (ad g m.2.1)), none, none, none, none] []
  have tail : ∀ (sz : Nat) (M : Mem) (p : Nat), GC g m M n e (dgI a) → p = e - (dgI a).length → V g B 0 0 (QM g B 0 0 (rI (fun _ m2 => GC g m m2 n e (dgI a))) noX) (hp g (M)) sz 104 [some (.int (-(nI a))), some (.int (nI e)), some (.ref (ad g m.2.1)), none, none, some (.int (nI p)), some (.int 0)] [] := by
    intro sz M p hgd hpe
    have hM2 := hgd.2.2.1
    have hbuf : ad g m.2.1 = ad g M.2.1 := by rw [hM2]
    rw [hbuf]
    refine V.iload (pc := 104) hB dJ6_getChars_ba4f3_104 rfl ?_
    refine V.if_eq (pc := 106) (tgt := 118) hB dJ6_getChars_ba4f3_106 (by decide) (fun c_106 => ?_) (fun c_106 => ?_)
    · refine V.iload (pc := 118) hB dJ6_getChars_ba4f3_118 rfl ?_
      refine V.retI (pc := 120) hB dJ6_getChars_ba4f3_120 rfl (rfl) (by omega) (by omega) ?_
      exact hgd
    · exact absurd rfl c_106
  refine V.iload_n (pc := 0) hB dJ6_getChars_ba4f3_0 rfl ?_
  refine V.istore (pc := 1) hB dJ6_getChars_ba4f3_1 (by decide) rfl ?_
  refine V.iload_n (pc := 3) hB dJ6_getChars_ba4f3_3 rfl ?_
  refine V.if_ge (pc := 4) (tgt := 11) hB dJ6_getChars_ba4f3_4 (by decide) (fun c_4 => ?_) (fun c_4 => ?_)
  · refine V.iconst (pc := 11) (v := 0) hB dJ6_getChars_ba4f3_11 rfl ?_
    refine V.istore (pc := 12) hB dJ6_getChars_ba4f3_12 (by decide) rfl ?_
    refine V.iload (pc := 14) hB dJ6_getChars_ba4f3_14 rfl ?_
    refine V.if_ne (pc := 16) (tgt := 22) hB dJ6_getChars_ba4f3_16 (by decide) (fun c_16 => ?_) (fun c_16 => ?_)
    · exact absurd rfl c_16
    · refine V.iload_n (pc := 19) hB dJ6_getChars_ba4f3_19 rfl ?_
      refine V.ineg (pc := 20) hB dJ6_getChars_ba4f3_20 ?_
      refine V.istore_n (pc := 21) hB dJ6_getChars_ba4f3_21 (by decide) rfl ?_
      refine V.iload_n (pc := 22) hB dJ6_getChars_ba4f3_22 rfl ?_
      refine V.bipush (pc := 23) (v := (-100)) hB dJ6_getChars_ba4f3_23 rfl ?_
      refine V.icmp_gt (pc := 25) (tgt := 72) hB dJ6_getChars_ba4f3_25 (by decide) (fun c_25 => ?_) (fun c_25 => ?_)
      · refine V.aload_n (pc := 72) hB dJ6_getChars_ba4f3_72 rfl ?_
        refine V.iinc (pc := 73) (v := nI (e - 1)) hB dJ6_getChars_ba4f3_73 rfl (dec1 (by omega)) (by decide) rfl ?_
        refine V.iload (pc := 76) hB dJ6_getChars_ba4f3_76 rfl ?_
        refine V.gets (pc := 78) hB (hE.d1) wf_J6_83 dJ6_getChars_ba4f3_78 ?_
        refine V.iload_n (pc := 81) hB dJ6_getChars_ba4f3_81 rfl ?_
        refine V.ineg (pc := 82) hB dJ6_getChars_ba4f3_82 ?_
        rw [neg_neg32]
        refine V.stb (pc := 83) (v := .int (nI (48 + a % 10))) hB (hE.d1T) (ix_nI (show a < 100 by omega) (by decide)).2 (by rw [nI_clamp (by omega)]) dJ6_getChars_ba4f3_83 ?_
        refine V.bastSB (pc := 84) hB dJ6_getChars_ba4f3_84 (SW.none hs) (ix_nI (show e - 1 < m.2.2 by omega) (by omega)) (nar_b _ (by omega)) ?_
        have hg1 : GC g m (up m 361 (e - 1) (nI (48 + a % 10))) n e [nI (48 + a % 10)] := (GC.nil hs).cons (show 0 < e by omega) hem (by omega)
        refine V.iload_n (pc := 85) hB dJ6_getChars_ba4f3_85 rfl ?_
        refine V.bipush (pc := 86) (v := (-9)) hB dJ6_getChars_ba4f3_86 rfl ?_
        refine V.icmp_ge (pc := 88) (tgt := 104) hB dJ6_getChars_ba4f3_88 (by decide) (fun c_88 => ?_) (fun c_88 => ?_)
        · have hlt : a < 10 := Nat.not_le.mp (fun z => absurd ((negI_le (b := 10) (by omega) (by decide)).mpr z) (Int32.not_le.mpr (Int32.lt_of_lt_of_le (show (-10 : Int32) < -9 by decide) c_88)))
          have hdg : dgI a = [nI (48 + a % 10)] := by unfold dgI; rw [if_pos hlt, show a % 10 = a by omega]
          have hgd : GC g m (up m 361 (e - 1) (nI (48 + a % 10))) n e (dgI a) := by rw [hdg]; exact hg1
          have hpe : e - 1 = e - (dgI a).length := by rw [hdg]; rfl
          exact tail _ _ _ hgd hpe
        · have hge : 10 ≤ a := Nat.not_lt.mp (fun z => c_88 ((negI_le (a := 9) (by decide) (by omega)).mpr (by omega)))
          have hdg : dgI a = [nI (48 + a / 10), nI (48 + a % 10)] := by unfold dgI; rw [if_neg (by omega)]
          have hl2 : (dgI a).length = 2 := by rw [hdg]; rfl
          have hgd : GC g m (up (up m 361 (e - 1) (nI (48 + a % 10))) 361 (e - 1 - 1) (nI (48 + a / 10))) n e (dgI a) := by rw [hdg]; exact hg1.cons (show 1 < e by omega) hem (by omega)
          have hpe : e - 1 - 1 = e - (dgI a).length := by rw [hdg]; show e - 1 - 1 = e - 2; omega
          refine V.aload_n (pc := 91) hB dJ6_getChars_ba4f3_91 rfl ?_
          refine V.iinc (pc := 92) (v := nI (e - 1 - 1)) hB dJ6_getChars_ba4f3_92 rfl (dec1 (by omega)) (by decide) rfl ?_
          refine V.iload (pc := 95) hB dJ6_getChars_ba4f3_95 rfl ?_
          refine V.gets (pc := 97) hB (hE.d10) wf_J6_87 dJ6_getChars_ba4f3_97 ?_
          refine V.iload_n (pc := 100) hB dJ6_getChars_ba4f3_100 rfl ?_
          refine V.ineg (pc := 101) hB dJ6_getChars_ba4f3_101 ?_
          rw [neg_neg32]
          refine V.stb (pc := 102) (v := .int (nI (48 + a / 10))) hB (hE.d10T) (ix_nI (show a < 100 by omega) (by decide)).2 (by rw [nI_clamp (by omega)]) dJ6_getChars_ba4f3_102 ?_
          refine V.bastSB (pc := 103) hB dJ6_getChars_ba4f3_103 (cell_none hs.2.2.2.1) (ix_nI (show e - 1 - 1 < m.2.2 by omega) (show m.2.2 < 2 ^ 31 by omega)) (nar_b _ (by omega)) ?_
          exact tail _ _ _ hgd hpe
      · exact absurd ((negI_le (b := 100) (by omega) (by decide)).mp (Int32.not_lt.mp c_25)) (by omega)
  · exact absurd hv0 (fun z => z (Int32.not_le.mp c_4))

set_option maxRecDepth 100000 in
set_option maxHeartbeats 1000000 in
theorem c_getChars_neg {g : xG} (hG : GK g) {z : xE} (hE : GE g z) {m : Mem} {n : Nat} (hs : SW g m n) {a : Nat} (ha : a ≤ 99) (hv0 : (-(nI a)) < 0) {e : Nat} (hem : e ≤ m.2.2) (he3 : (dgI a).length + 1 ≤ e) : CC g yJ6_getChars_ba4f3 (.code yJ6_getChars_ba4f3 cJ6_getChars_ba4f3 7 (some .int)) 1 0 0 [.int (-(nI a)), .int (nI e), .ref (ad g m.2.1)] m (rI (fun _ m2 => GC g m m2 n e (45 :: dgI a))) noX := by
  have h2 := hs.2.2.1
  have hdl := dg_len a
  have hd2 : (dgI a).length ≤ 2 ∧ 1 ≤ (dgI a).length := by rw [hdl]; split <;> omega
  refine CC.mk hG RJ6 rfl (by decide +kernel) rfl (Nat.le_of_ble_eq_true rfl) (fun sz B hB hX => ?_)
  show V g B 0 0 _ (hp g m) sz 0 [some (.int (-(nI a))), some (.int (nI e)), some (.ref (ad g m.2.1)), none, none, none, none] []
  have tail : ∀ (sz : Nat) (M : Mem) (p : Nat), GC g m M n e (dgI a) → p = e - (dgI a).length → V g B 0 0 (QM g B 0 0 (rI (fun _ m2 => GC g m m2 n e (45 :: dgI a))) noX) (hp g (M)) sz 104 [some (.int (-(nI a))), some (.int (nI e)), some (.ref (ad g m.2.1)), none, none, some (.int (nI p)), some (.int 1)] [] := by
    intro sz M p hgd hpe
    have hM2 := hgd.2.2.1
    have hbuf : ad g m.2.1 = ad g M.2.1 := by rw [hM2]
    rw [hbuf]
    refine V.iload (pc := 104) hB dJ6_getChars_ba4f3_104 rfl ?_
    refine V.if_eq (pc := 106) (tgt := 118) hB dJ6_getChars_ba4f3_106 (by decide) (fun c_106 => ?_) (fun c_106 => ?_)
    · exact absurd c_106 (by decide)
    · refine V.aload_n (pc := 109) hB dJ6_getChars_ba4f3_109 rfl ?_
      refine V.iinc (pc := 110) (v := nI (p - 1)) hB dJ6_getChars_ba4f3_110 rfl (dec1 (by omega)) (by decide) rfl ?_
      refine V.iload (pc := 113) hB dJ6_getChars_ba4f3_113 rfl ?_
      refine V.bipush (pc := 115) (v := 45) hB dJ6_getChars_ba4f3_115 rfl ?_
      refine V.bastSB (pc := 117) hB dJ6_getChars_ba4f3_117 (cell_none (by rw [hM2]; exact hs.2.2.2.1)) (ix_nI (show p - 1 < M.2.2 by rw [hM2]; omega) (by rw [hM2]; omega)) (nar_b 45 (by decide)) ?_
      refine V.iload (pc := 118) hB dJ6_getChars_ba4f3_118 rfl ?_
      refine V.retI (pc := 120) hB dJ6_getChars_ba4f3_120 rfl (rfl) (by omega) (by omega) ?_
      have hc := hgd.cons (c := 45) (by omega) hem (by decide)
      rw [← hpe] at hc
      exact hc
  refine V.iload_n (pc := 0) hB dJ6_getChars_ba4f3_0 rfl ?_
  refine V.istore (pc := 1) hB dJ6_getChars_ba4f3_1 (by decide) rfl ?_
  refine V.iload_n (pc := 3) hB dJ6_getChars_ba4f3_3 rfl ?_
  refine V.if_ge (pc := 4) (tgt := 11) hB dJ6_getChars_ba4f3_4 (by decide) (fun c_4 => ?_) (fun c_4 => ?_)
  · exact absurd c_4 (Int32.not_le.mpr hv0)
  · refine V.iconst (pc := 7) (v := 1) hB dJ6_getChars_ba4f3_7 rfl ?_
    refine V.goto (pc := 8) (tgt := 12) hB dJ6_getChars_ba4f3_8 (by decide) ?_
    refine V.istore (pc := 12) hB dJ6_getChars_ba4f3_12 (by decide) rfl ?_
    refine V.iload (pc := 14) hB dJ6_getChars_ba4f3_14 rfl ?_
    refine V.if_ne (pc := 16) (tgt := 22) hB dJ6_getChars_ba4f3_16 (by decide) (fun c_16 => ?_) (fun c_16 => ?_)
    · refine V.iload_n (pc := 22) hB dJ6_getChars_ba4f3_22 rfl ?_
      refine V.bipush (pc := 23) (v := (-100)) hB dJ6_getChars_ba4f3_23 rfl ?_
      refine V.icmp_gt (pc := 25) (tgt := 72) hB dJ6_getChars_ba4f3_25 (by decide) (fun c_25 => ?_) (fun c_25 => ?_)
      · refine V.aload_n (pc := 72) hB dJ6_getChars_ba4f3_72 rfl ?_
        refine V.iinc (pc := 73) (v := nI (e - 1)) hB dJ6_getChars_ba4f3_73 rfl (dec1 (by omega)) (by decide) rfl ?_
        refine V.iload (pc := 76) hB dJ6_getChars_ba4f3_76 rfl ?_
        refine V.gets (pc := 78) hB (hE.d1) wf_J6_83 dJ6_getChars_ba4f3_78 ?_
        refine V.iload_n (pc := 81) hB dJ6_getChars_ba4f3_81 rfl ?_
        refine V.ineg (pc := 82) hB dJ6_getChars_ba4f3_82 ?_
        rw [neg_neg32]
        refine V.stb (pc := 83) (v := .int (nI (48 + a % 10))) hB (hE.d1T) (ix_nI (show a < 100 by omega) (by decide)).2 (by rw [nI_clamp (by omega)]) dJ6_getChars_ba4f3_83 ?_
        refine V.bastSB (pc := 84) hB dJ6_getChars_ba4f3_84 (SW.none hs) (ix_nI (show e - 1 < m.2.2 by omega) (by omega)) (nar_b _ (by omega)) ?_
        have hg1 : GC g m (up m 361 (e - 1) (nI (48 + a % 10))) n e [nI (48 + a % 10)] := (GC.nil hs).cons (show 0 < e by omega) hem (by omega)
        refine V.iload_n (pc := 85) hB dJ6_getChars_ba4f3_85 rfl ?_
        refine V.bipush (pc := 86) (v := (-9)) hB dJ6_getChars_ba4f3_86 rfl ?_
        refine V.icmp_ge (pc := 88) (tgt := 104) hB dJ6_getChars_ba4f3_88 (by decide) (fun c_88 => ?_) (fun c_88 => ?_)
        · have hlt : a < 10 := Nat.not_le.mp (fun z => absurd ((negI_le (b := 10) (by omega) (by decide)).mpr z) (Int32.not_le.mpr (Int32.lt_of_lt_of_le (show (-10 : Int32) < -9 by decide) c_88)))
          have hdg : dgI a = [nI (48 + a % 10)] := by unfold dgI; rw [if_pos hlt, show a % 10 = a by omega]
          have hgd : GC g m (up m 361 (e - 1) (nI (48 + a % 10))) n e (dgI a) := by rw [hdg]; exact hg1
          have hpe : e - 1 = e - (dgI a).length := by rw [hdg]; rfl
          exact tail _ _ _ hgd hpe
        · have hge : 10 ≤ a := Nat.not_lt.mp (fun z => c_88 ((negI_le (a := 9) (by decide) (by omega)).mpr (by omega)))
          have hdg : dgI a = [nI (48 + a / 10), nI (48 + a % 10)] := by unfold dgI; rw [if_neg (by omega)]
          have hl2 : (dgI a).length = 2 := by rw [hdg]; rfl
          have hgd : GC g m (up (up m 361 (e - 1) (nI (48 + a % 10))) 361 (e - 1 - 1) (nI (48 + a / 10))) n e (dgI a) := by rw [hdg]; exact hg1.cons (show 1 < e by omega) hem (by omega)
          have hpe : e - 1 - 1 = e - (dgI a).length := by rw [hdg]; show e - 1 - 1 = e - 2; omega
          refine V.aload_n (pc := 91) hB dJ6_getChars_ba4f3_91 rfl ?_
          refine V.iinc (pc := 92) (v := nI (e - 1 - 1)) hB dJ6_getChars_ba4f3_92 rfl (dec1 (by omega)) (by decide) rfl ?_
          refine V.iload (pc := 95) hB dJ6_getChars_ba4f3_95 rfl ?_
          refine V.gets (pc := 97) hB (hE.d10) wf_J6_87 dJ6_getChars_ba4f3_97 ?_
          refine V.iload_n (pc := 100) hB dJ6_getChars_ba4f3_100 rfl ?_
          refine V.ineg (pc := 101) hB dJ6_getChars_ba4f3_101 ?_
          rw [neg_neg32]
          refine V.stb (pc := 102) (v := .int (nI (48 + a / 10))) hB (hE.d10T) (ix_nI (show a < 100 by omega) (by decide)).2 (by rw [nI_clamp (by omega)]) dJ6_getChars_ba4f3_102 ?_
          refine V.bastSB (pc := 103) hB dJ6_getChars_ba4f3_103 (cell_none hs.2.2.2.1) (ix_nI (show e - 1 - 1 < m.2.2 by omega) (show m.2.2 < 2 ^ 31 by omega)) (nar_b _ (by omega)) ?_
          exact tail _ _ _ hgd hpe
      · exact absurd ((negI_le (b := 100) (by omega) (by decide)).mp (Int32.not_lt.mp c_25)) (by omega)
    · exact absurd c_16 (by decide)

theorem GC.app {g : xG} {m m2 : Mem} {n : Nat} {l : List Int32} (h : GC g m m2 n (n + l.length) l) (hle : n + l.length ≤ m.2.2) : SW g (up m2 360 3 (nI (n + l.length))) (n + l.length) ∧ SF m (up m2 360 3 (nI (n + l.length))) n ∧ ∀ j, j < l.length → (up m2 360 3 (nI (n + l.length))).1 361 (n + j) = l.getD j 0 := by
  obtain ⟨h1, h2, h3, h4, h5⟩ := h
  rw [Nat.add_sub_cancel] at h4 h5
  refine ⟨⟨up_same _ _ _ _, by show n + l.length ≤ m2.2.2; rw [h3]; exact hle, h1.2.2.1, h1.2.2.2.1, fun j hj => by rw [up_cell _ _ _ (by decide)]; exact h1.by j hj, h1.nx⟩, ⟨fun k a b => by rw [up_cell _ _ _ a]; exact h2 k b, fun j hj => by rw [up_cell _ _ _ (by decide)]; exact h4 j hj⟩, fun j hj => by rw [up_cell _ _ _ (by decide)]; exact h5 j hj⟩
theorem txt_len {a : Nat} {v : Int32} (ha : a ≤ 99) (hv : n99 a v) : (txtI v).length ≤ 3 := by
  rcases hv with ⟨h1, h2⟩ | ⟨h1, h2, _⟩
  · rw [txt_pos h1 h2 ha, dg_len]; split <;> omega
  · rw [txt_neg h1 h2 ha, List.length_cons, dg_len]; split <;> omega
