/-! rows set whole; System.arraycopy of our rows; java.lang.Math -/
def setRow (m : Mem) (k : Nat) (f : Nat → Int32) : Mem := (fun q => if q = k then f else m.1 q, m.2)
theorem setRow_same (m : Mem) (k : Nat) (f : Nat → Int32) : (setRow m k f).1 k = f := if_pos rfl
theorem setRow_cell (m : Mem) {k q : Nat} (f : Nat → Int32) (h : q ≠ k) : (setRow m k f).1 q = m.1 q := if_neg h
theorem up_eq (m : Mem) (k f : Nat) (v : Int32) : up m k f v = setRow m k (upd (m.1 k) f v) := by
  refine Prod.ext ?_ rfl
  funext q
  by_cases h : q = k
  · subst h; rw [up_row, setRow_same]
  · rw [up_cell m f v h, setRow_cell m _ h]
theorem setRow_set (m : Mem) (k : Nat) (f f' : Nat → Int32) : setRow (setRow m k f) k f' = setRow m k f' := by
  refine Prod.ext ?_ rfl
  funext q
  by_cases h : q = k
  · subst h; rw [setRow_same, setRow_same]
  · rw [setRow_cell _ _ h, setRow_cell _ _ h, setRow_cell _ _ h]
theorem setRow_id (m : Mem) (k : Nat) : setRow m k (m.1 k) = m := by
  refine Prod.ext ?_ rfl
  funext q
  by_cases h : q = k
  · subst h; rw [setRow_same]
  · rw [setRow_cell _ _ h]
theorem up_set (m : Mem) (k j : Nat) (f f' : Nat → Int32) (v : Int32) (h : ∀ y, f' y = if y = j then v else f y) : up (setRow m k f) k j v = setRow m k f' := by
  rw [up_eq, setRow_set, setRow_same]
  congr 1
  funext y
  rw [h y]
  rfl
theorem hp_setRow {g : xG} {m : Mem} {k : Nat} {f : Nat → Int32} (hk : k ≠ 361) : ∀ q, q ≠ ad g k → hp g (setRow m k f) q = hp g m q := by
  intro q hq
  unfold hp
  by_cases h : q < g.1.heap.size
  · rw [if_pos h, if_pos h]
  · rw [if_neg h, if_neg h]
    have hne : q - g.1.heap.size ≠ k := fun z => hq (by unfold ad; omega)
    rw [cellAt_congr (setRow_cell m f hne) rfl, setRow_cell m f (Ne.symm hk)]
    rfl
theorem wst_acopy : WD (.static arraycopyName) := WD.at 509 (by decide +kernel) rfl
theorem wna_acopy : WD (.native arraycopyName) := WD.at 510 (by decide +kernel) rfl
theorem wn_sys : WD (.initialized "java/lang/System") := WD.at 41 (by decide +kernel) rfl
section VJ
variable {g : xG} {B : BT} {k n : Nat} {Q : State → Prop} {h : xH} {m : Mem} {sz pc : Nat} {ls : List (Option Value)} {st : List Value} {cc : ByteArray} {nL : Nat} {own : String} {ret : Option FieldType} {d mc ms : Nat}
theorem V.acopy (hB : Bd g B cc nL own ret d mc ms) {a0 a1 n0 n1 t idx : Nat} {f0 f1 : Nat → Int32} {ty : FieldType} {sp dp N : Int32} (hl : WD (.methodLink own idx arraycopyName)) (ht : (xtys g)[t]? = some (g.2.2.1 t, ty)) (hprim : refKind ty = false) (hd : decode cc pc = .ok (.invokestatic idx, 3)) (he0 : h a0 = some (.inl (g.2.2.1 t, n0, .inl f0))) (he1 : h a1 = some (.inl (g.2.2.1 t, n1, .inl f1))) (g1 : ¬ sp < 0) (g2 : ¬ dp < 0) (g3 : ¬ N < 0) (g4 : sp.toNatClampNeg + N.toNatClampNeg ≤ n0) (g5 : dp.toNatClampNeg + N.toNatClampNeg ≤ n1) (hfit : ∀ i, i < N.toNatClampNeg → fits ty (.int (f0 (sp.toNatClampNeg + i))) = true) (hd1 : 1 ≤ d) (hst : (st.map fun v => v.category).sum ≤ 8) {h' : xH} (e1 : h' a1 = some (.inl (g.2.2.1 t, n1, .inl (va_cpy f0 f1 sp.toNatClampNeg dp.toNatClampNeg N.toNatClampNeg)))) (e2 : ∀ q, q ≠ a1 → h' q = h q) (kk : V g B k n Q h' sz (pc + 3) ls st) : V g B k n Q h sz pc ls (.int N :: .int dp :: .ref a1 :: .int sp :: .ref a0 :: st) := by
  obtain ⟨p, l, e, R, s, m, args, below, meth, c⟩ := B
  obtain ⟨hx, hb, hml, hown, hr, hlk, hG, hW, hR, hfl⟩ := hB
  subst hR
  intro H locs A hz hl0
  have nn : ∀ z : Int32, ¬ z < 0 → z.toInt = (z.toNatClampNeg : Int) := by
    intro z hz
    have hz0 : (0 : Int) ≤ z.toInt := by
      have := Int32.not_lt.mp hz
      simpa using Int32.le_iff_toInt_le.mp this
    show z.toInt = ((z.toInt.toNat : Nat) : Int)
    omega
  intro T hT X
  obtain ⟨ha0, hc0⟩ := hz.2.2.2.1 a0 _ he0
  obtain ⟨ha1, hc1⟩ := hz.2.2.2.1 a1 _ he1
  have hc0 : H[a0]? = some (vp_cell (g.2.2.1 t) (n0, .inl f0)) := hc0
  have hc1 : H[a1]? = some (vp_cell (g.2.2.1 t) (n1, .inl f1)) := hc1
  have hK := hG.kn hW
  obtain ⟨-, k0, hk0, cm0, hkk0⟩ := (hK.2 t _ ht).1 n0 (fun j => .int (f0 j))
  obtain ⟨-, k1, hk1, cm1, hkk1⟩ := (hK.2 t _ ht).1 n1 (fun j => .int (f1 j))
  obtain ⟨vm', X', step⟩ := X.arraycopy hx hown (hl.of hG args hW) (wna_acopy.of hG args hW) (wst_acopy.of hG args hW) (wn_sys.of hG args hW) (src := a0) (dst := a1) (cs := vp_cell (g.2.2.1 t) (n0, .inl f0)) (cd := vp_cell (g.2.2.1 t) (n1, .inl f1)) (srcPos := sp) (destPos := dp) (n := N) (by rw [hT]; exact hc0) (by rw [hT]; exact hc1)
    (fun _ h => by cases h) (fun _ h => by cases h) (fun h => by cases h) (fun h => by cases h) hk0 hk1 hkk0 hkk1 (by simp [hprim]) g1 g2 g3
    (by rw [nn sp g1, nn N g3]; show ¬ _ > ((arrV (g.2.2.1 t) n0 (fun j => .int (f0 j))).slots.size : Int); rw [arrV_size]; omega)
    (by rw [nn dp g2, nn N g3]; show ¬ _ > ((arrV (g.2.2.1 t) n1 (fun j => .int (f1 j))).slots.size : Int); rw [arrV_size]; omega)
    (fun vm₁ _ i hi => by
      have e : (vp_cell (g.2.2.1 t) (n0, .inl f0)).slots.getD (sp.toNatClampNeg + i) .null = .int (f0 (sp.toNatClampNeg + i)) := by
        show (arrV (g.2.2.1 t) n0 (fun j => .int (f0 j))).slots.getD _ _ = _
        rw [Array.getD_eq_getD_getElem?, arrV_read _ _ (by omega)]
        rfl
      refine ⟨?_, ?_⟩
      · rw [e]
        exact hfit i hi
      · rw [e]
        exact trivial)
    (g := F0 _ pc A (.int N :: .int dp :: .ref a1 :: .int sp :: .ref a0 :: st)) rfl (by rw [hl0.1]) (rest := st) rfl (by rw [hb]; exact hd) (by show 1 ≤ 40 * d; omega) (by
      have : nativeFrameWords "java/lang/System" "arraycopy" 5 ≤ 300 := by decide
      show 2 * 0 + _ + _ ≤ 400 * d
      omega)
  have e3 : copied (vp_cell (g.2.2.1 t) (n0, .inl f0)) (vp_cell (g.2.2.1 t) (n1, .inl f1)) sp dp N = vp_cell (g.2.2.1 t) (n1, .inl (va_cpy f0 f1 sp.toNatClampNeg dp.toNatClampNeg N.toNatClampNeg)) := va_copied (fun z => .int z) (g.2.2.1 t) (g.2.2.1 t) f0 f1 g4
  rw [e3] at X' step
  have hl9 : a1 < H.size := (Array.getElem?_eq_some_iff.mp hc1).1
  have hheap : ((T.setVm vm').setCell a1 (vp_cell (g.2.2.1 t) (n1, .inl (va_cpy f0 f1 sp.toNatClampNeg dp.toNatClampNeg N.toNatClampNeg)))).heap = H.setIfInBounds a1 (vp_cell (g.2.2.1 t) (n1, .inl (va_cpy f0 f1 sp.toNatClampNeg dp.toNatClampNeg N.toNatClampNeg))) := by rw [← hT]; rfl
  have oq : ∀ q : Nat, q ≠ a1 → (H.setIfInBounds a1 (vp_cell (g.2.2.1 t) (n1, .inl (va_cpy f0 f1 sp.toNatClampNeg dp.toNatClampNeg N.toNatClampNeg))))[q]? = H[q]? := fun q hq => by simp [Array.getElem?_setIfInBounds, Ne.symm hq]
  have hz2 : RZ g h' sz (H.setIfInBounds a1 (vp_cell (g.2.2.1 t) (n1, .inl (va_cpy f0 f1 sp.toNatClampNeg dp.toNatClampNeg N.toNatClampNeg)))) (locs ++ [⟨a1, 0⟩]) := hz.put (e := .inl (g.2.2.1 t, n1, .inl (va_cpy f0 f1 sp.toNatClampNeg dp.toNatClampNeg N.toNatClampNeg))) (by simp) oq ha1 (show (H.setIfInBounds a1 _)[a1]? = some _ by simp [Array.getElem?_setIfInBounds, hl9]) e1 e2
  obtain ⟨t2, a2, b2⟩ := kk _ _ A (hz2.locs (fun q hq => by
      rcases List.mem_append.mp hq with h | h
      · exact hz.2.2.2.2 q h
      · obtain ⟨z, -, hz⟩ := List.mem_map.mp h
        rw [← hz]
        exact ha1)) hl0 _ hheap X'
  exact ⟨t2, step t2 a2, b2⟩
theorem V.acopyM (hB : Bd g B cc nL own ret d mc ms) {k0 k1 n0 n1 idx : Nat} (t : Nat) {ty : FieldType} {N : Int32} (q : Nat) (hl : WD (.methodLink own idx arraycopyName)) (hd : decode cc pc = .ok (.invokestatic idx, 3)) (he0 : ∀ m : Mem, cellAt g m k0 = some (.inl (g.2.2.1 t, n0, .inl (m.1 k0)))) (he1 : ∀ m : Mem, cellAt g m k1 = some (.inl (g.2.2.1 t, n1, .inl (m.1 k1)))) (ht : (xtys g)[t]? = some (g.2.2.1 t, ty)) (hprim : refKind ty = false) (g3 : ¬ N < 0) (hq : N.toNatClampNeg = q) (g4 : q ≤ n0) (g5 : q ≤ n1) (hfit : ∀ i, i < q → fits ty (.int (m.1 k0 i)) = true) (hne : k1 ≠ 361) (hd1 : 1 ≤ d) (hst : (st.map fun v => v.category).sum ≤ 8) (kk : V g B k n Q (hp g (setRow m k1 (va_cpy (m.1 k0) (m.1 k1) 0 0 q))) sz (pc + 3) ls st) : V g B k n Q (hp g m) sz pc ls (.int N :: .int 0 :: .ref (ad g k1) :: .int 0 :: .ref (ad g k0) :: st) := by
  subst hq
  refine V.acopy hB hl ht hprim hd (hp_at (he0 m)) (hp_at (he1 m)) (by decide) (by decide) g3 (by rw [sb_cl0]; omega) (by rw [sb_cl0]; omega) (fun i hi => by rw [sb_cl0, Nat.zero_add]; exact hfit i hi) hd1 hst (hp_at ((he1 _).trans ?_)) (hp_setRow hne) kk
  rw [setRow_same, sb_cl0]
end VJ

set_option maxRecDepth 100000 in
set_option maxHeartbeats 4000000 in
theorem c_J9_max_7cf53 {g : xG} (hG : GK g) {x y : Int32} {m : Mem} : CC g yJ9_max_7cf53 (.code yJ9_max_7cf53 cJ9_max_7cf53 2 (some .int)) 1 0 0 [.int x, .int y] m (rI (fun v m2 => v = (if x < y then y else x) ∧ m2 = m)) noX := by
  refine CC.mk hG RJ9 rfl (by decide +kernel) rfl (Nat.le_of_ble_eq_true rfl) (fun sz B hB hX => ?_)
  show V g B 0 0 _ (hp g m) sz 0 [some (.int x), some (.int y)] []
  refine V.iload_n hB dJ9_max_7cf53_0 rfl ?_
  refine V.iload_n hB dJ9_max_7cf53_1 rfl ?_
  refine V.icmp_lt (tgt := 9) hB dJ9_max_7cf53_2 (by decide) (fun c_2 => ?_) (fun c_2 => ?_)
  · refine V.iload_n hB dJ9_max_7cf53_9 rfl ?_
    refine V.retI hB dJ9_max_7cf53_10 rfl (rfl) (by omega) (by omega) ?_
    exact ⟨by simp [c_2], rfl⟩
  · refine V.iload_n hB dJ9_max_7cf53_5 rfl ?_
    refine V.goto (tgt := 10) hB dJ9_max_7cf53_6 (by decide) ?_
    refine V.retI hB dJ9_max_7cf53_10 rfl (rfl) (by omega) (by omega) ?_
    exact ⟨by simp [c_2], rfl⟩

set_option maxRecDepth 100000 in
set_option maxHeartbeats 4000000 in
theorem c_J9_min_7cf53 {g : xG} (hG : GK g) {x y : Int32} {m : Mem} : CC g yJ9_min_7cf53 (.code yJ9_min_7cf53 cJ9_min_7cf53 2 (some .int)) 1 0 0 [.int x, .int y] m (rI (fun v m2 => v = (if y < x then y else x) ∧ m2 = m)) noX := by
  refine CC.mk hG RJ9 rfl (by decide +kernel) rfl (Nat.le_of_ble_eq_true rfl) (fun sz B hB hX => ?_)
  show V g B 0 0 _ (hp g m) sz 0 [some (.int x), some (.int y)] []
  refine V.iload_n hB dJ9_min_7cf53_0 rfl ?_
  refine V.iload_n hB dJ9_min_7cf53_1 rfl ?_
  refine V.icmp_gt (tgt := 9) hB dJ9_min_7cf53_2 (by decide) (fun c_2 => ?_) (fun c_2 => ?_)
  · refine V.iload_n hB dJ9_min_7cf53_9 rfl ?_
    refine V.retI hB dJ9_min_7cf53_10 rfl (rfl) (by omega) (by omega) ?_
    exact ⟨by simp [c_2], rfl⟩
  · refine V.iload_n hB dJ9_min_7cf53_5 rfl ?_
    refine V.goto (tgt := 10) hB dJ9_min_7cf53_6 (by decide) ?_
    refine V.retI hB dJ9_min_7cf53_10 rfl (rfl) (by omega) (by omega) ?_
    exact ⟨by simp [c_2], rfl⟩

set_option maxRecDepth 100000 in
set_option maxHeartbeats 4000000 in
theorem c_J9_abs_0f7a4 {g : xG} (hG : GK g) {x : Int32} {m : Mem} : CC g yJ9_abs_0f7a4 (.code yJ9_abs_0f7a4 cJ9_abs_0f7a4 1 (some .int)) 1 0 0 [.int x] m (rI (fun v m2 => v = (if 0 ≤ x then x else -x) ∧ m2 = m)) noX := by
  refine CC.mk hG RJ9 rfl (by decide +kernel) rfl (Nat.le_of_ble_eq_true rfl) (fun sz B hB hX => ?_)
  show V g B 0 0 _ (hp g m) sz 0 [some (.int x)] []
  refine V.iload_n hB dJ9_abs_0f7a4_0 rfl ?_
  refine V.if_ge (tgt := 9) hB dJ9_abs_0f7a4_1 (by decide) (fun c_1 => ?_) (fun c_1 => ?_)
  · refine V.iload_n hB dJ9_abs_0f7a4_9 rfl ?_
    refine V.retI hB dJ9_abs_0f7a4_10 rfl (rfl) (by omega) (by omega) ?_
    exact ⟨by simp [c_1], rfl⟩
  · refine V.iload_n hB dJ9_abs_0f7a4_4 rfl ?_
    refine V.ineg hB dJ9_abs_0f7a4_5 ?_
    refine V.goto (tgt := 10) hB dJ9_abs_0f7a4_6 (by decide) ?_
    refine V.retI hB dJ9_abs_0f7a4_10 rfl (rfl) (by omega) (by omega) ?_
    exact ⟨by simp [c_1], rfl⟩

set_option maxRecDepth 100000 in
set_option maxHeartbeats 4000000 in
theorem c_J9_floorMod_7cf53 {g : xG} (hG : GK g) {x y : Int32} {m : Mem} (hy : ¬ y = 0) : CC g yJ9_floorMod_7cf53 (.code yJ9_floorMod_7cf53 cJ9_floorMod_7cf53 3 (some .int)) 1 0 0 [.int x, .int y] m (rI (fun v m2 => v = (if 0 ≤ x ^^^ y then x - x / y * y else if x - x / y * y = 0 then x - x / y * y else x - x / y * y + y) ∧ m2 = m)) noX := by
  refine CC.mk hG RJ9 rfl (by decide +kernel) rfl (Nat.le_of_ble_eq_true rfl) (fun sz B hB hX => ?_)
  show V g B 0 0 _ (hp g m) sz 0 [some (.int x), some (.int y), none] []
  refine V.iload_n hB dJ9_floorMod_7cf53_0 rfl ?_
  refine V.iload_n hB dJ9_floorMod_7cf53_1 rfl ?_
  refine V.irem hB dJ9_floorMod_7cf53_2 (hy) ?_
  refine V.istore_n hB dJ9_floorMod_7cf53_3 (by decide) rfl ?_
  refine V.iload_n hB dJ9_floorMod_7cf53_4 rfl ?_
  refine V.iload_n hB dJ9_floorMod_7cf53_5 rfl ?_
  refine V.ixor hB dJ9_floorMod_7cf53_6 ?_
  refine V.if_ge (tgt := 18) hB dJ9_floorMod_7cf53_7 (by decide) (fun c_7 => ?_) (fun c_7 => ?_)
  · refine V.iload_n hB dJ9_floorMod_7cf53_18 rfl ?_
    refine V.retI hB dJ9_floorMod_7cf53_19 rfl (rfl) (by omega) (by omega) ?_
    first | exact ⟨(if_pos c_7).symm, rfl⟩ | exact ⟨by rw [if_neg c_7, if_pos c_11], rfl⟩ | exact ⟨by rw [if_neg c_7, if_neg c_11], rfl⟩
  · refine V.iload_n hB dJ9_floorMod_7cf53_10 rfl ?_
    refine V.if_eq (tgt := 18) hB dJ9_floorMod_7cf53_11 (by decide) (fun c_11 => ?_) (fun c_11 => ?_)
    · refine V.iload_n hB dJ9_floorMod_7cf53_18 rfl ?_
      refine V.retI hB dJ9_floorMod_7cf53_19 rfl (rfl) (by omega) (by omega) ?_
      first | exact ⟨(if_pos c_7).symm, rfl⟩ | exact ⟨by rw [if_neg c_7, if_pos c_11], rfl⟩ | exact ⟨by rw [if_neg c_7, if_neg c_11], rfl⟩
    · refine V.iload_n hB dJ9_floorMod_7cf53_14 rfl ?_
      refine V.iload_n hB dJ9_floorMod_7cf53_15 rfl ?_
      refine V.iadd hB dJ9_floorMod_7cf53_16 ?_
      refine V.retI hB dJ9_floorMod_7cf53_17 rfl (rfl) (by omega) (by omega) ?_
      first | exact ⟨(if_pos c_7).symm, rfl⟩ | exact ⟨by rw [if_neg c_7, if_pos c_11], rfl⟩ | exact ⟨by rw [if_neg c_7, if_neg c_11], rfl⟩
