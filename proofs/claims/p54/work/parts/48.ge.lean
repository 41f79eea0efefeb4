/-! the start: its classes, its own objects -/
abbrev fcW : List Cond := flatC (Jvm.Cond.and given_1 narrow_1)
def knd0 : Term := .static "IceBells$Kind" "LAKE" "LIceBells$Kind;"
def kst (j : Nat) : Term := .string RL (lsi j)
theorem fc_ix (i : Nat) {w : Cond} (h : fcW[i]? = some w) : w ∈ fcW := List.mem_of_getElem? h
theorem fc_run {n : Nat} (i : Nat) {f : Nat → Cond} (h : (fcW.drop i).take n = (List.range n).map f) : ∀ j, j < n → f j ∈ fcW := fun j hj => List.mem_of_mem_drop (List.mem_of_mem_take (h ▸ List.mem_map.mpr ⟨j, List.mem_range.mpr hj, rfl⟩))
theorem fc_kex : Cond.exactly knd0 "IceBells$Kind" ∈ fcW := fc_ix 4 (by decide +kernel)
def stOK (t : Term) (byt : List Int32) : Prop := Cond.exactly t "java/lang/String" ∈ fcW ∧ Cond.eq (.field t "java/lang/String" "coder" "B") (.int 0) ∈ fcW ∧ Cond.arrayOf (.field t "java/lang/String" "value" "[B") .byte ∈ fcW ∧ Cond.eq (.length (.field t "java/lang/String" "value" "[B")) (.int (Int32.ofNat byt.length)) ∈ fcW ∧ (∀ j, j < byt.length → Cond.eq (.elem (.field t "java/lang/String" "value" "[B") (.int (Int32.ofNat j))) (.int (byt.getD j 0)) ∈ fcW) ∧ byt.length ≤ 100 ∧ ∀ j, j < byt.length → ((byt.getD j 0 &&& 255).toUInt32 % 65536).toInt32 = byt.getD j 0
theorem fc_st0 : stOK (kst 0) (lst 0) := ⟨fc_ix 884 (by decide +kernel), fc_ix 885 (by decide +kernel), fc_ix 886 (by decide +kernel), fc_ix 887 (by decide +kernel), fun j hj => absurd hj (Nat.not_lt_zero j), by decide, by decide +kernel⟩
theorem fc_st1 : stOK (kst 1) (lst 1) := ⟨fc_ix 888 (by decide +kernel), fc_ix 889 (by decide +kernel), fc_ix 890 (by decide +kernel), fc_ix 891 (by decide +kernel), fc_run 892 (by decide +kernel), by decide, by decide +kernel⟩
theorem fc_st2 : stOK (kst 2) (lst 2) := ⟨fc_ix 893 (by decide +kernel), fc_ix 894 (by decide +kernel), fc_ix 895 (by decide +kernel), fc_ix 896 (by decide +kernel), fc_run 897 (by decide +kernel), by decide, by decide +kernel⟩
theorem fc_st3 : stOK (kst 3) (lst 3) := ⟨fc_ix 898 (by decide +kernel), fc_ix 899 (by decide +kernel), fc_ix 900 (by decide +kernel), fc_ix 901 (by decide +kernel), fc_run 902 (by decide +kernel), by decide, by decide +kernel⟩
theorem fc_st : ∀ j, j < 4 → stOK (kst j) (lst j) := fun j hj => by
  rcases (by omega : j = 0 ∨ j = 1 ∨ j = 2 ∨ j = 3) with rfl | rfl | rfl | rfl
  · exact fc_st0
  · exact fc_st1
  · exact fc_st2
  · exact fc_st3
def zC : Term := .static "java/lang/String" "COMPACT_STRINGS" "Z"
def z1 : Term := .static "java/lang/Integer" "DigitOnes" "[B"
def z10 : Term := .static "java/lang/Integer" "DigitTens" "[B"
def zF : Term := .static "jdk/internal/util/Preconditions" "SIOOBE_FORMATTER" "Ljava/util/function/BiFunction;"
theorem fc_z : Cond.eq zC (.int 1) ∈ fcW ∧ Cond.arrayOf z1 .byte ∈ fcW ∧ Cond.eq (.length z1) (.int (Int32.ofNat 100)) ∈ fcW ∧ Cond.arrayOf z10 .byte ∈ fcW ∧ Cond.eq (.length z10) (.int (Int32.ofNat 100)) ∈ fcW ∧ Cond.isRef zF ∈ fcW := ⟨fc_ix 7 (by decide +kernel), fc_ix 37 (by decide +kernel), fc_ix 38 (by decide +kernel), fc_ix 140 (by decide +kernel), fc_ix 141 (by decide +kernel), fc_ix 22 (by decide +kernel)⟩
theorem fc_z1 : ∀ j, j < 100 → Cond.eq (.elem z1 (.int (Int32.ofNat j))) (.int (nI (48 + j % 10))) ∈ fcW := fc_run 39 (by decide +kernel)
theorem fc_z10 : ∀ j, j < 100 → Cond.eq (.elem z10 (.int (Int32.ofNat j))) (.int (nI (48 + j / 10))) ∈ fcW := fc_run 142 (by decide +kernel)
theorem tb (i : Nat) {w : Cond} (h : lw_tbl[i]? = some w) : w ∈ lw_tbl := List.mem_of_getElem? h
theorem lw_z : (Cond.laysStatic "java/lang/String" "COMPACT_STRINGS" "Z" ∈ lw_tbl ∧ Cond.initialized "java/lang/String" ∈ lw_tbl) ∧ (Cond.laysStatic "java/lang/Integer" "DigitOnes" "[B" ∈ lw_tbl ∧ Cond.laysStatic "java/lang/Integer" "DigitTens" "[B" ∈ lw_tbl ∧ Cond.initialized "java/lang/Integer" ∈ lw_tbl) ∧ (Cond.laysStatic "jdk/internal/util/Preconditions" "SIOOBE_FORMATTER" "Ljava/util/function/BiFunction;" ∈ lw_tbl ∧ Cond.initialized "jdk/internal/util/Preconditions" ∈ lw_tbl) ∧ (Cond.laysStatic "IceBells$Kind" "LAKE" "LIceBells$Kind;" ∈ lw_tbl ∧ Cond.initialized "IceBells$Kind" ∈ lw_tbl) := ⟨⟨tb 263 (by decide +kernel), tb 31 (by decide +kernel)⟩, ⟨tb 1091 (by decide +kernel), tb 1093 (by decide +kernel), tb 50 (by decide +kernel)⟩, ⟨tb 721 (by decide +kernel), tb 44 (by decide +kernel)⟩, ⟨tb 221 (by decide +kernel), tb 28 (by decide +kernel)⟩⟩
theorem lw_sr : ∀ i, i < 4 → ∃ tx, Cond.stringRef RL (lsi i) tx ∈ lw_tbl := fun i hi => by
  rcases (by omega : i = 0 ∨ i = 1 ∨ i = 2 ∨ i = 3) with rfl | rfl | rfl | rfl
  · exact ⟨"", tb 970 (by decide +kernel)⟩
  · exact ⟨" ", tb 1076 (by decide +kernel)⟩
  · exact ⟨"/", tb 1102 (by decide +kernel)⟩
  · exact ⟨"!", tb 1103 (by decide +kernel)⟩
section ST
variable {s : State} {args : Array Value} {A : Nat → Prop}
/-- a string constant at the start -/
theorem str_of (hn : ∀ w ∈ fcW, w.before args s = true) (hA : ∀ a : Nat, a < s.heap.size → ¬ A a) {t : Term} {byt : List Int32} (h : stOK t byt) : ∃ a v : Nat, t.eval args s none [] s = some (.ref a) ∧ va_O "java/lang/String" a A s s.heap ∧ va_OF "java/lang/String" "coder" "B" (.int 0) a A s s.heap ∧ va_OF "java/lang/String" "value" "[B" (.ref v) a A s s.heap ∧ va_T .byte v byt.length (fun j => .int (byt.getD j 0)) A s s.heap := by
  obtain ⟨h1, h2, h3, h4, h5, h6, h7⟩ := h
  obtain ⟨a, c, cA, kA, q1, -⟩ := Cond.exactly_spec (args := args) (first := s) (o := none) (s := s) (idx := []) (t := t) (cls := "java/lang/String") (hn _ h1)
  obtain ⟨v, hv, hT⟩ := va_Tof (f := fun j => .int (byt.getD j 0)) (A := A) (show byt.length < 2 ^ 31 by omega) (hn _ h3) (va_eqt (hn _ h4)) (fun j hj => va_eqt (hn _ (h5 j hj))) hA
  exact ⟨a, v, q1, va_Oof (hn _ h1) q1 hA, vk_OFof q1 (va_eqt (hn _ h2)) hA, vk_OFof q1 hv hA, hT⟩
theorem arr_of {ty : FieldType} (hno : ∀ C, ty ≠ .object C) (h : (Cond.arrayClass ty).before args s = true) : ∃ c, ArrOfT s c ty ∧ va_RA s c ty := by
  obtain ⟨c, k, comp, h1, h2, h3⟩ := Cond.arrayClass_spec h
  refine ⟨c, fun n z => ⟨fun k h => (by cases h), k, h2, comp, h3⟩, ?_⟩
  unfold va_RA
  split
  · rename_i C; exact absurd rfl (hno C)
  · exact h1
theorem arr_ofO {C : String} (h : (Cond.arrayOver (.object C)).before args s = true) : ∃ c, ArrOfT s c (.object C) ∧ va_RA s c (.object C) := by
  obtain ⟨comp, c, k, h1, _, h2, h3, h4⟩ := Cond.arrayOver_spec h
  exact ⟨c, fun n z => ⟨fun k h => (by cases h), k, h2, comp, h3⟩, k, comp, h2, h3, h1, h4⟩
end ST
theorem start_ex {s : State} {b : Nat} (hts : ∀ w ∈ lw_tbl, w.before #[Value.ref b] s = true) (hgv : (Jvm.Cond.and given_1 narrow_1).before #[Value.ref b] s = true) : ∃ (g : xG) (z : xE), g.1 = s ∧ GK g ∧ GE g z ∧ ∀ a, ex g a = none := by
  have hn : ∀ w ∈ fcW, w.before #[Value.ref b] s = true := flat_of_before _ hgv
  have hA : ∀ a : Nat, a < s.heap.size → ¬ (fun q : Nat => s.heap.size ≤ q) a := fun a h z => absurd z (Nat.not_le.mpr h)
  obtain ⟨c0, i0, k0⟩ := u_known (C := RX1) (T := TX1) (N := 3) (n := 3) hts w_in_X1 (hts _ wib_X1.1)
  obtain ⟨c1, i1, k1⟩ := u_known (C := RX2) (T := TX2) (N := 5) (n := 5) hts w_in_X2 (hts _ wib_X2.1)
  obtain ⟨c2, i2, k2⟩ := u_known (C := RX3) (T := TX3) (N := 3) (n := 3) hts w_in_X3 (hts _ wib_X3.1)
  obtain ⟨c3, i3, k3⟩ := u_known (C := RX5) (T := TX5) (N := 6) (n := 6) hts w_in_X5 (hts _ wib_X5.1)
  obtain ⟨c4, i4, k4⟩ := u_known (C := RX6) (T := TX6) (N := 8) (n := 8) hts w_in_X6 (hts _ wib_X6.1)
  obtain ⟨c5, i5, k5⟩ := u_known (C := RX7) (T := TX7) (N := 6) (n := 6) hts w_in_X7 (hts _ wib_X7.1)
  obtain ⟨c6, i6, k6⟩ := u_known (C := RX8) (T := TX8) (N := 3) (n := 3) hts w_in_X8 (hts _ wib_X8.1)
  obtain ⟨c7, i7, k7⟩ := u_known (C := RX9) (T := TX9) (N := 11) (n := 11) hts w_in_X9 (hts _ wib_X9.1)
  obtain ⟨c8, i8, k8⟩ := u_known (C := RJ0) (T := TJ0) (N := 4) (n := 4) hts w_in_J0 (hts _ wib_J0.1)
  obtain ⟨c9, i9, k9⟩ := u_known (C := RJ4) (T := TJ4) (N := 4) (n := 4) hts w_in_J4 (hts _ wib_J4.1)
  obtain ⟨dC, dI, hKc⟩ : ∃ (dC : Nat → ClassId) (dI : Nat → Nat → Nat), ∀ (k : Nat) (q : vw_C), xcl[k]? = some q → u_Kn s q.1 q.2.1 q.2.2 (dC k) (dI k) := by
    refine ⟨fun k => match k with | 0 => c0 | 1 => c1 | 2 => c2 | 3 => c3 | 4 => c4 | 5 => c5 | 6 => c6 | 7 => c7 | 8 => c8 | _ => c9, fun k => match k with | 0 => i0 | 1 => i1 | 2 => i2 | 3 => i3 | 4 => i4 | 5 => i5 | 6 => i6 | 7 => i7 | 8 => i8 | _ => i9, ?_⟩
    intro k q hq
    match k, hq with
    | 0, hq => cases hq; exact k0
    | 1, hq => cases hq; exact k1
    | 2, hq => cases hq; exact k2
    | 3, hq => cases hq; exact k3
    | 4, hq => cases hq; exact k4
    | 5, hq => cases hq; exact k5
    | 6, hq => cases hq; exact k6
    | 7, hq => cases hq; exact k7
    | 8, hq => cases hq; exact k8
    | 9, hq => cases hq; exact k9
    | k + 10, hq => simp [xcl] at hq
  obtain ⟨a0, b0, e0⟩ := arr_of (ty := .int) (fun C h => by cases h) (hts _ war_int.1)
  obtain ⟨a1, b1, e1⟩ := arr_of (ty := .char) (fun C h => by cases h) (hts _ war_char.1)
  obtain ⟨a4, b4, e4⟩ := arr_of (ty := .byte) (fun C h => by cases h) (hts _ war_byte.1)
  obtain ⟨a5, b5, e5⟩ := arr_ofO (C := RX1) (hts _ wao_X1)
  obtain ⟨a6, b6, e6⟩ := arr_ofO (C := RX5) (hts _ wao_X5)
  obtain ⟨a7, b7, e7⟩ := arr_ofO (C := RX6) (hts _ wao_X6)
  obtain ⟨ka, ck, cA, kA, hka, -⟩ := Cond.exactly_spec (args := #[Value.ref b]) (first := s) (o := none) (s := s) (idx := []) (t := knd0) (cls := "IceBells$Kind") (hn _ fc_kex)
  have hs0 : ∀ j : Nat, ∃ q : Nat × Nat, j < 4 → (kst j).eval #[Value.ref b] s none [] s = some (.ref q.1) ∧ va_O "java/lang/String" q.1 (fun q : Nat => s.heap.size ≤ q) s s.heap ∧ va_OF "java/lang/String" "coder" "B" (.int 0) q.1 (fun q : Nat => s.heap.size ≤ q) s s.heap ∧ va_OF "java/lang/String" "value" "[B" (.ref q.2) q.1 (fun q : Nat => s.heap.size ≤ q) s s.heap ∧ va_T .byte q.2 (lst j).length (fun i => .int ((lst j).getD i 0)) (fun q : Nat => s.heap.size ≤ q) s s.heap := by
    intro j
    by_cases hj : j < 4
    · obtain ⟨a, v, h⟩ := str_of hn hA (fc_st j hj)
      exact ⟨(a, v), fun _ => h⟩
    · exact ⟨(0, 0), fun h => absurd h hj⟩
  obtain ⟨sa, hsa⟩ := Classical.axiomOfChoice hs0
  obtain ⟨f1, f6, f7, f8, f9, f10⟩ := fc_z
  obtain ⟨⟨l1, l2⟩, ⟨l7, l8, l9⟩, ⟨l10, l11⟩, ⟨l12, l13⟩⟩ := lw_z
  obtain ⟨t1, h11, h12⟩ := va_Tof (N := 100) (f := fun j => .int (nI (48 + j % 10))) (A := fun q : Nat => s.heap.size ≤ q) (by decide) (hn _ f6) (va_eqt (hn _ f7)) (fun j hj => va_eqt (hn _ (fc_z1 j hj))) hA
  obtain ⟨t10, h101, h102⟩ := va_Tof (N := 100) (f := fun j => .int (nI (48 + j / 10))) (A := fun q : Nat => s.heap.size ≤ q) (by decide) (hn _ f8) (va_eqt (hn _ f9)) (fun j hj => va_eqt (hn _ (fc_z10 j hj))) hA
  have hF : ∃ w : Value, va_Z "jdk/internal/util/Preconditions" "SIOOBE_FORMATTER" "Ljava/util/function/BiFunction;" w (fun q : Nat => s.heap.size ≤ q) s s.heap ∧ w.category = 1 := by
    rcases va_Zqof (A := fun q : Nat => s.heap.size ≤ q) (hts _ l10) (hts _ l11) (hn _ f10) hA with h | ⟨t, h⟩
    · exact ⟨_, h, rfl⟩
    · exact ⟨_, h, rfl⟩
  obtain ⟨z, hz⟩ : ∃ z : Nat → Nat, z = fun n => if n = 4 then t1 else if n = 5 then t10 else if n < 20 then (sa (n - 10)).1 else (sa (n - 20)).2 := ⟨_, rfl⟩
  have z4 : z 4 = t1 := by rw [hz]; rfl
  have z5 : z 5 = t10 := by rw [hz]; rfl
  have z10' : ∀ i, i < 4 → z (10 + i) = (sa i).1 := fun i hi => by
    rw [hz]
    show (if 10 + i = 4 then _ else _) = _
    rw [if_neg (by omega), if_neg (by omega), if_pos (by omega), Nat.add_sub_cancel_left]
  have z20' : ∀ i, i < 4 → z (20 + i) = (sa i).2 := fun i hi => by
    rw [hz]
    show (if 20 + i = 4 then _ else _) = _
    rw [if_neg (by omega), if_neg (by omega), if_neg (by omega), Nat.add_sub_cancel_left]
  refine ⟨(s, (dC, dI), (fun t => match t with | 0 => a0 | 1 => a1 | 2 => a0 | 3 => a0 | 4 => a4 | 5 => a5 | 6 => a6 | _ => a7), (fun _ => ka), 0, fun _ => none), z, rfl, ⟨⟨b, hts, hgv⟩, hKc, ?_⟩, ?_, fun _ => rfl⟩
  · intro k q hq
    match k, hq with
    | 0, hq => cases hq; exact ⟨b0, e0⟩
    | 1, hq => cases hq; exact ⟨b1, e1⟩
    | 2, hq => cases hq; exact ⟨b0, e0⟩
    | 3, hq => cases hq; exact ⟨b0, e0⟩
    | 4, hq => cases hq; exact ⟨b4, e4⟩
    | 5, hq => cases hq; exact ⟨b5, e5⟩
    | 6, hq => cases hq; exact ⟨b6, e6⟩
    | 7, hq => cases hq; exact ⟨b7, e7⟩
    | k + 8, hq => simp [xtys] at hq
  · refine ⟨va_Zof (hts _ l1) (hts _ l2) (va_eqt (hn _ f1)) hA, fun i hi => ?_, ⟨?_, ?_⟩, ⟨?_, ?_⟩, hF, va_Zref (hts _ l12) (hts _ l13) hka hA⟩
    · obtain ⟨tx, htx⟩ := lw_sr i hi
      rw [z10' i hi, z20' i hi]
      obtain ⟨q0, q1, q2, q3, q4⟩ := hsa i hi
      exact ⟨⟨q1, q2, q3, q4, (fc_st i hi).2.2.2.2.2.1, (fc_st i hi).2.2.2.2.2.2⟩, tx, vk_R.of (hts _ htx) q0⟩
    · rw [z4]; exact va_Zref (hts _ l7) (hts _ l9) h11 hA
    · rw [z4]; exact h12
    · rw [z5]; exact va_Zref (hts _ l8) (hts _ l9) h101 hA
    · rw [z5]; exact h102
