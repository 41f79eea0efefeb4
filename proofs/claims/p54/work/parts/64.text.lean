/-! texts: rows that were wanting; a builder's toString over any picture -/
theorem wcl_same : WD (.sameMethod "[B" "java/lang/Object" "clone" "()Ljava/lang/Object;") := WD.at 1013 (by decide +kernel) rfl
theorem wcl_nat : WD (.native ⟨"java/lang/Object", "clone", "()Ljava/lang/Object;"⟩) := WD.at 1014 (by decide +kernel) rfl
theorem wcl_ins : WD (.instanceMethod ⟨"java/lang/Object", "clone", "()Ljava/lang/Object;"⟩) := WD.at 1015 (by decide +kernel) rfl
theorem wcl_sel : WD (.selects "[B" ⟨"[B", "clone", "()Ljava/lang/Object;"⟩ ⟨"java/lang/Object", "clone", "()Ljava/lang/Object;"⟩) := WD.at 1016 (by decide +kernel) rfl
theorem wcl_cas : Cond.castable "[B" "java/lang/Cloneable" ∈ lw_tbl := List.mem_of_getElem? (i := 1017) (by decide +kernel)
section VTX
variable {g : xG} {B : BT} {k n : Nat} {Q : State → Prop} {h : xH} {sz pc : Nat} {ls : List (Option Value)} {st : List Value} {cc : ByteArray} {nL : Nat} {own : String} {ret : Option FieldType} {d mc ms : Nat}
theorem V.null (hB : Bd g B cc nL own ret d mc ms) (hd : decode cc pc = .ok (.aconst_null, 1)) (kk : V g B k n Q h sz (pc + 1) ls (.null :: st)) : V g B k n Q h sz pc ls st := by
  obtain ⟨p, l, e, R, s, m, args, below, meth, c⟩ := B
  obtain ⟨hx, hb, hml, hown, hr, hlk, hG, hW, hR, hfl⟩ := hB
  intro H locs A hz hl0
  exact lv_null hx hb hd (kk H locs A hz hl0)
theorem V.ifnn (hB : Bd g B cc nL own ret d mc ms) {x : Nat} {off : Int} {tgt : Nat} (hd : decode cc pc = .ok (.ifnonnull off, 3)) (ht : (pc : Int) + off = (tgt : Int)) (kk : V g B k n Q h sz tgt ls st) : V g B k n Q h sz pc ls (.ref x :: st) := by
  obtain ⟨p, l, e, R, s, m, args, below, meth, c⟩ := B
  obtain ⟨hx, hb, hml, hown, hr, hlk, hG, hW, hR, hfl⟩ := hB
  intro H locs A hz hl0
  exact lv_ifnonnull hx hb hd ht (kk H locs A hz hl0)
theorem V.castB (hB : Bd g B cc nL own ret d mc ms) {a idx : Nat} {x : vp_A} (hl : WD (.classLink own idx "[B")) (he : h a = some (.inl (g.2.2.1 4, x))) (hd : decode cc pc = .ok (.checkcast idx, 3)) (kk : V g B k n Q h sz (pc + 3) ls (.ref a :: st)) : V g B k n Q h sz pc ls (.ref a :: st) := by
  obtain ⟨p, l, e, R, s, m, args, below, meth, c⟩ := B
  obtain ⟨hx, hb, hml, hown, hr, hlk, hG, hW, hR, hfl⟩ := hB
  intro H locs A hz hl0
  have hP : va_P g.2.1 xcl [(a, .inl (g.2.2.1 4, x))] H := fun q y hq => by
    cases q with
    | zero => cases hq; exact (hz.2.2.2.1 a _ he).2
    | succ q => cases hq
  exact va_castA hx hb hown (hl.of hG args hW) hP 0 rfl (va_nm_byte ((hG.kn hW).2 4 _ rfl).2) hd (kk H locs A hz hl0)
theorem V.clone (hB : Bd g B cc nL own ret d mc ms) {a idx : Nat} {x : vp_A} (hl : WD (.methodLink own idx ⟨"[B", "clone", "()Ljava/lang/Object;"⟩)) (he : h a = some (.inl (g.2.2.1 4, x))) (hfit : ∀ (i : Nat) (v : Value), (vp_cell (g.2.2.1 4) x).slots[i]? = some v → fits .byte v = true) (hd1 : 1 ≤ d) (hst : (st.map fun v => v.category).sum ≤ 8) (hcells : k + 1 ≤ mc) (hslots : n + x.1 ≤ ms) (hd : decode cc pc = .ok (.invokevirtual idx, 3))
    (kk : V g B (k + 1) (n + x.1) Q (hx h sz (.inl (g.2.2.1 4, x))) (sz + 1) (pc + 3) ls (.ref sz :: st)) : V g B k n Q h sz pc ls (.ref a :: st) := by
  obtain ⟨p, l, e, R, s, m, args, below, meth, c⟩ := B
  obtain ⟨hx1, hb, hml, hown, hr, hlk, hG, hW, hR, hfl⟩ := hB
  subst hR
  intro H locs A hz hl0
  have hK := hG.kn hW
  have hat : H[a]? = some (vp_cell (g.2.2.1 4) x) := (hz.2.2.2.1 a _ he).2
  have hnm : s.vm.findClass "[B" = some (g.2.2.1 4) := va_nm_byte (hK.2 4 _ rfl).2
  obtain ⟨b, hbw, -⟩ := hG.nd
  have hcl : va_Nw (.castable "[B" "java/lang/Cloneable") s := va_Nw.warmC hW (va_Nw.of rfl (hbw _ wcl_cas))
  obtain ⟨cA, hcA⟩ : ∃ cA, cA = g.2.2.1 4 := ⟨_, rfl⟩
  rw [← hcA] at hat hnm hfit
  have hsz : (vp_cell cA x).slots.size = x.1 := by
    obtain ⟨n, f | f | f | f | f⟩ := x <;> exact arrV_size _ _ _
  have hvm0 : (vp_cell cA x).vm = .none := by
    obtain ⟨n, f | f | f | f | f⟩ := x <;> rfl
  have hcl0 : (vp_cell cA x).cls = cA := by
    obtain ⟨n, f | f | f | f | f⟩ := x <;> rfl
  have hcellE : ({ cls := (vp_cell cA x).cls, slots := (vp_cell cA x).slots } : Cell) = vp_cell cA x := by
    obtain ⟨n, f | f | f | f | f⟩ := x <;> rfl
  obtain ⟨c0, t0', f1, f2, f3⟩ := Cond.castable_spec (va_Nw.use (A := args) rfl hcl)
  cases hnm.symm.trans f1
  intro T hT X
  have hcellT : T.heap[a]? = some (vp_cell cA x) := by rw [hT]; exact hat
  obtain ⟨-, kA, hkA, comp, hkind⟩ := State.isArrayOf_alike X.warmed.alike ((hK.2 4 _ rfl).1 0 (fun _ => .null))
  obtain ⟨-, kS, hkS, compS, hkindS⟩ := (hK.2 4 _ rfl).1 0 (fun _ => .null)
  rw [show (arrV (g.2.2.1 4) 0 (fun _ => Value.null)).cls = cA from hcA.symm] at hkA hkS
  obtain ⟨vm', X', st9⟩ := X.cloneArray hx1 hown (hl.of hG args hW) (wcl_same.of hG args hW) (wcl_nat.of hG args hW) (wcl_ins.of hG args hW) (wcl_sel.of hG args hW) (a := a) (cell := vp_cell cA x) hcellT (fun k h => by rw [hvm0] at h; cases h) (by rw [hvm0]; exact fun h => by cases h) (by rw [hcl0]; exact hnm) f2 (by rw [hcl0]; exact f3)
    (fun i v hv => by
      rw [hcl0]
      have hk' : T.vm.classes[cA]? = some kA := hkA
      simpa [State.fitsSlot, State.slotType?, hk', hkind, xty] using hfit i v hv)
    (g := F0 m pc A (.ref a :: st)) rfl (by rw [hl0.1]) rfl (by rw [hb]; exact hd) (by show 1 ≤ 40 * d; omega) (by show 2 * 0 + _ + 14 ≤ 400 * d; omega) hcells (by rw [hsz]; exact hslots) (hloader := by rw [hcl0]; exact Vm.clonesLoader_of_array hkS hkindS)
  rw [hcellE, hsz] at X'
  generalize hH1 : H.push (vp_cell cA x) = H1
  have z1 : H1.size = sz + 1 := by rw [← hH1, Array.size_push, hz.1]
  have e1 : H1[sz]? = some (vp_cell cA x) := by rw [← hH1, ← hz.1, Array.getElem?_push_size]
  have o1 : ∀ q : Nat, q < sz → H1[q]? = H[q]? := fun q hq => by rw [← hH1, Array.getElem?_push, if_neg (by rw [hz.1]; omega)]
  obtain ⟨t, b1, b2⟩ := kk H1 locs A (hz.new (e := .inl (g.2.2.1 4, x)) z1 o1 (by rw [← hcA]; exact e1) (hx_at _ _ _) (fun q hq => hx_ne _ _ hq)) hl0 ((T.setVm vm').pushCell (vp_cell cA x)) (by rw [← hH1, ← hT]; rfl) X'
  refine ⟨t, st9 t ?_, b2⟩
  rw [hcellE, hT, hz.1]
  exact b1
/-- System.arraycopy out of a row of the start -/
theorem V.acopyT (hB : Bd g B cc nL own ret d mc ms) {a0 a1 n0 n1 idx : Nat} {f0 f1 : Nat → Int32} {sp dp N : Int32} (hl : WD (.methodLink own idx arraycopyName)) (hd : decode cc pc = .ok (.invokestatic idx, 3)) (hT0 : va_T .byte a0 n0 (fun j => .int (f0 j)) (xFree g) g.1 g.1.heap) (he1 : h a1 = some (.inl (g.2.2.1 4, n1, .inl f1))) (g1 : ¬ sp < 0) (g2 : ¬ dp < 0) (g3 : ¬ N < 0) (g4 : sp.toNatClampNeg + N.toNatClampNeg ≤ n0) (g5 : dp.toNatClampNeg + N.toNatClampNeg ≤ n1) (hfit : ∀ i, i < N.toNatClampNeg → fits .byte (.int (f0 (sp.toNatClampNeg + i))) = true) (hd1 : 1 ≤ d) (hst : (st.map fun v => v.category).sum ≤ 8) {h' : xH} (e1 : h' a1 = some (.inl (g.2.2.1 4, n1, .inl (va_cpy f0 f1 sp.toNatClampNeg dp.toNatClampNeg N.toNatClampNeg)))) (e2 : ∀ q, q ≠ a1 → h' q = h q) (kk : V g B k n Q h' sz (pc + 3) ls st) : V g B k n Q h sz pc ls (.int N :: .int dp :: .ref a1 :: .int sp :: .ref a0 :: st) := by
  obtain ⟨p, l, e, R, s, m, args, below, meth, c⟩ := B
  obtain ⟨hx, hb, hml, hown, hr, hlk, hG, hW, hR, hfl⟩ := hB
  subst hR
  intro H locs A hz hl0
  have nn : ∀ z : Int32, ¬ z < 0 → z.toInt = (z.toNatClampNeg : Int) := by
    intro z hz
    have hz0 : (0 : Int) ≤ z.toInt := by
      have := Int32.not_lt.mp hz
      simpa using Int32.le_iff_toInt_le.mp this
    show z.toInt = ((z.toInt.toNat : Nat) : Int)
    omega
  intro T hT X
  obtain ⟨scr, hs1, hs2, hs3, hs4, -, hs5, -⟩ := hT0.moved hW.alike
  have hc0 : H[a0]? = some scr := hz.old hs1
  obtain ⟨ha1, hc1⟩ := hz.2.2.2.1 a1 _ he1
  have hc1 : H[a1]? = some (vp_cell (g.2.2.1 4) (n1, .inl f1)) := hc1
  have hK := hG.kn hW
  obtain ⟨hs6, k0, hk0, cm0, hkk0⟩ := hs2
  obtain ⟨-, k1, hk1, cm1, hkk1⟩ := (hK.2 4 _ rfl).1 n1 (fun j => .int (f1 j))
  obtain ⟨vm', X', step⟩ := X.arraycopy hx hown (hl.of hG args hW) (wna_acopy.of hG args hW) (wst_acopy.of hG args hW) (wn_sys.of hG args hW) (src := a0) (dst := a1) (cs := scr) (cd := vp_cell (g.2.2.1 4) (n1, .inl f1)) (srcPos := sp) (destPos := dp) (n := N) (by rw [hT]; exact hc0) (by rw [hT]; exact hc1)
    hs6 (fun _ h => by cases h) hs3 (fun h => by cases h) hk0 hk1 hkk0 hkk1 (by simp [xty, refKind]) g1 g2 g3
    (by rw [nn sp g1, nn N g3]; omega)
    (by rw [nn dp g2, nn N g3]; show ¬ _ > ((arrV (g.2.2.1 4) n1 (fun j => .int (f1 j))).slots.size : Int); rw [arrV_size]; omega)
    (fun vm₁ _ i hi => by
      have e : scr.slots.getD (sp.toNatClampNeg + i) .null = .int (f0 (sp.toNatClampNeg + i)) := by
        rw [Array.getD_eq_getD_getElem?, hs5 _ (by omega)]
        rfl
      refine ⟨?_, ?_⟩
      · rw [e]
        exact hfit i hi
      · rw [e]
        exact trivial)
    (g := F0 _ pc A (.int N :: .int dp :: .ref a1 :: .int sp :: .ref a0 :: st)) rfl (by rw [hl0.1]) (rest := st) rfl (by rw [hb]; exact hd) (by show 1 ≤ 40 * d; omega) (by
      have : nativeFrameWords "java/lang/System" "arraycopy" 5 ≤ 300 := by decide
      show 2 * 0 + _ + _ ≤ 400 * d
      omega)
  have e3 : copied scr (vp_cell (g.2.2.1 4) (n1, .inl f1)) sp dp N = vp_cell (g.2.2.1 4) (n1, .inl (va_cpy f0 f1 sp.toNatClampNeg dp.toNatClampNeg N.toNatClampNeg)) := va_copiedX (fun z => .int z) scr (g.2.2.1 4) f0 f1 hs5 g4
  rw [e3] at X' step
  have hl9 : a1 < H.size := (Array.getElem?_eq_some_iff.mp hc1).1
  have hheap : ((T.setVm vm').setCell a1 (vp_cell (g.2.2.1 4) (n1, .inl (va_cpy f0 f1 sp.toNatClampNeg dp.toNatClampNeg N.toNatClampNeg)))).heap = H.setIfInBounds a1 (vp_cell (g.2.2.1 4) (n1, .inl (va_cpy f0 f1 sp.toNatClampNeg dp.toNatClampNeg N.toNatClampNeg))) := by rw [← hT]; rfl
  have oq : ∀ q : Nat, q ≠ a1 → (H.setIfInBounds a1 (vp_cell (g.2.2.1 4) (n1, .inl (va_cpy f0 f1 sp.toNatClampNeg dp.toNatClampNeg N.toNatClampNeg))))[q]? = H[q]? := fun q hq => by simp [Array.getElem?_setIfInBounds, Ne.symm hq]
  have hz2 : RZ g h' sz (H.setIfInBounds a1 (vp_cell (g.2.2.1 4) (n1, .inl (va_cpy f0 f1 sp.toNatClampNeg dp.toNatClampNeg N.toNatClampNeg)))) (locs ++ [⟨a1, 0⟩]) := hz.put (e := .inl (g.2.2.1 4, n1, .inl (va_cpy f0 f1 sp.toNatClampNeg dp.toNatClampNeg N.toNatClampNeg))) (by simp) oq ha1 (show (H.setIfInBounds a1 _)[a1]? = some _ by simp [Array.getElem?_setIfInBounds, hl9]) e1 e2
  obtain ⟨t2, a2, b2⟩ := kk _ _ A (hz2.locs (fun q hq => by
      rcases List.mem_append.mp hq with h | h
      · exact hz.2.2.2.2 q h
      · obtain ⟨z, -, hz⟩ := List.mem_map.mp h
        rw [← hz]
        exact ha1)) hl0 _ hheap X'
  exact ⟨t2, step t2 a2, b2⟩
/-- invokevirtual where the class has an overriding method -/
theorem V.callO (hB : Bd g B cc nL own ret d mc ms) {x y : MethodName} {bytes b0 : ByteArray} {maxL m0 np idx d' mc' ms' a : Nat} {rt r0 : Option FieldType} {av : List Value} {Qr' : Option Value → xH → Nat → Prop} {Qx' : String → xH → Nat → Prop} {st0 : List Value} {C : String} (hC : CW y bytes maxL rt np) (hC0 : CW x b0 m0 r0 np) (hin0 : WD (.instanceMethod x)) (hl : WD (.methodLink own idx x)) (hsm : WD (.sameMethod x.cls x.cls x.name x.desc)) (hin : WD (.instanceMethod y)) (hse : WD (.selects C x y)) (hd : decode cc pc = .ok (.invokevirtual idx, 3)) (hd' : d' < d) (hL : maxL ≤ 300)
    (hM : Ct g y (.code y bytes maxL rt) d' mc' ms' (.ref a :: av) h sz Qr' Qx') (hno : ∀ E h' sz', ¬ Qx' E h' sz') (hrc : RC g B h sz a C) (hnp : av.length = np) (hst : (st.map fun v => v.category).sum ≤ 8) (hc : k + mc' ≤ mc) (hs : n + ms' ≤ ms)
    (kk : ∀ (v : Option Value) (h' : xH) (sz' : Nat), Qr' v h' sz' → V g B (k + mc') (n + ms') Q h' sz' (pc + 3) ls (v.toList ++ st)) (hst0 : st0 = av.reverse ++ .ref a :: st) : V g B k n Q h sz pc ls st0 := by
  refine V.ofRunN (av := .ref a :: av) hB (fun p l e R s m args below meth c H locs A hBe hz hl0 => ?_) kk
  subst hBe
  obtain ⟨hx, hb, hml, hown, hr9, hlk, hG, hW, hR, hfl⟩ := hB
  subst hR
  refine va_runU (As := av) (rest := st) (n := np) (C := C) (owner := x.cls) (x := x) (bytes := bytes) (maxL := maxL) (ret := rt) ⟨hx, hb, hml, hown, fun w hw => (absurd hw (List.not_mem_nil (a := w)))⟩ (hM.met hno hfl)
    ⟨⟨rfl, rfl, (xRm_le hd' hL).1, (xRm_le hd' hL).2, fun w hw a' U hU => ?_, List.mem_cons_self⟩, hC.1.of hG args hW, hC.2.1.of hG args hW, ⟨hC0.2.2.1, hC0.2.2.2.1⟩, fun sig hs9 => ?_, hl.of hG args hW, hsm.of hG args hW, va_Decl.of (x := x) (hin0.of hG args hW) (hC0.1.of hG args hW), hse.of hG args hW, hin.of hG args hW⟩
    ⟨xPc.blind, hrc H locs hz, fun U hU hWU => ⟨rfl, State.WarmedH.trans hW hWU, by rw [hU]; exact hz.locs (fun _ h => by cases h)⟩⟩ rfl hnp (hl0.1.trans hml) hst0 (lv_room hst) hd ⟨hc, hs⟩
  · have : w = .code y bytes maxL rt := by simpa using hw
    subst this
    exact hC.1.of hG a' (State.WarmedH.trans hW hU)
  · have h2 := hC0.2.2.2.2
    rw [hs9] at h2
    exact (Option.some.inj h2).symm
end VTX
/-- a builder at b over a picture: its bytes at v, cap of them, n used -/
def SBH (g : xG) (h : xH) (b v n cap : Nat) (f : Nat → Int32) : Prop := (∃ x2 : Int32, h b = some (.inr (9, [.ref v, .int 0, .int x2, .int (nI n)]))) ∧ h v = some (.inl (g.2.2.1 4, cap, .inl f)) ∧ n ≤ cap ∧ cap ≤ 200 ∧ ∀ j, j < cap → fits .byte (.int (f j)) = true
theorem SBH.keep {g : xG} {h h' : xH} {b v n cap : Nat} {f : Nat → Int32} (hs : SBH g h b v n cap f) (e1 : h' b = h b) (e2 : h' v = h v) : SBH g h' b v n cap f := by
  obtain ⟨⟨x2, h1⟩, h2, h3⟩ := hs
  exact ⟨⟨x2, e1.trans h1⟩, e2.trans h2, h3⟩
section TS
variable {g : xG} (hG : GK g)
set_option maxRecDepth 100000 in
set_option maxHeartbeats 4000000 in
theorem t_J5_getValue (hG : GK g) {h : xH} {sz b v n cap : Nat} {f : Nat → Int32} (hs : SBH g h b v n cap f) : Ct g yJ5_getValue_6d5f1 (.code yJ5_getValue_6d5f1 cJ5_getValue_6d5f1 1 (some (.array .byte))) 1 0 0 [.ref b] h sz (fun r h' sz' => r = some (.ref v) ∧ h' = h ∧ sz' = sz) noT := by
  obtain ⟨⟨x2, h1⟩, -⟩ := hs
  refine Ct.mk hG RJ5 rfl (by decide +kernel) rfl (Nat.le_of_ble_eq_true rfl) (fun B hB hX _ => ?_)
  show V g B 0 0 _ h sz 0 [some (.ref b)] []
  refine V.aload_n (pc := 0) hB dJ5_getValue_6d5f1_0 rfl ?_
  refine V.get (pc := 1) hB fk_SB 0 wf_J5_15 dJ5_getValue_6d5f1_1 (by decide) h1 rfl ?_
  exact V.aret (pc := 4) hB dJ5_getValue_6d5f1_4 rfl (Or.inr ⟨_, rfl⟩) ⟨rfl, rfl, rfl⟩
set_option maxRecDepth 100000 in
set_option maxHeartbeats 4000000 in
theorem t_J5_length (hG : GK g) {h : xH} {sz b v n cap : Nat} {f : Nat → Int32} (hs : SBH g h b v n cap f) : Ct g yJ5_length_8abf5 (.code yJ5_length_8abf5 cJ5_length_8abf5 1 (some .int)) 1 0 0 [.ref b] h sz (fun r h' sz' => r = some (.int (nI n)) ∧ h' = h ∧ sz' = sz) noT := by
  obtain ⟨⟨x2, h1⟩, -⟩ := hs
  refine Ct.mk hG RJ5 rfl (by decide +kernel) rfl (Nat.le_of_ble_eq_true rfl) (fun B hB hX _ => ?_)
  show V g B 0 0 _ h sz 0 [some (.ref b)] []
  refine V.aload_n (pc := 0) hB dJ5_length_8abf5_0 rfl ?_
  refine V.get (pc := 1) hB fk_SB 3 wf_J5_79 dJ5_length_8abf5_1 (by decide) h1 rfl ?_
  exact V.iret (pc := 4) hB dJ5_length_8abf5_4 rfl ⟨rfl, rfl, rfl⟩
set_option maxRecDepth 100000 in
set_option maxHeartbeats 4000000 in
theorem t_J4_length (hG : GK g) {h : xH} {sz b v n cap : Nat} {f : Nat → Int32} (hs : SBH g h b v n cap f) : Ct g yJ4_length_8abf5 (.code yJ4_length_8abf5 cJ4_length_8abf5 1 (some .int)) 2 0 0 [.ref b] h sz (fun r h' sz' => r = some (.int (nI n)) ∧ h' = h ∧ sz' = sz) noT := by
  refine Ct.mk hG RJ4 rfl (by decide +kernel) rfl (Nat.le_of_ble_eq_true rfl) (fun B hB hX _ => ?_)
  show V g B 0 0 _ h sz 0 [some (.ref b)] []
  refine V.aload_n (pc := 0) hB dJ4_length_8abf5_0 rfl ?_
  obtain ⟨x2, h1⟩ := hs.1
  refine V.callSU (pc := 1) (C := RJ4) hB (ci := 9) rfl cw_J5_length_8abf5 wm_J4_343 wsm_J5_length_8abf5 wsp_J4 (by decide +kernel) wi_J5_length_8abf5 dJ4_length_8abf5_1 (by decide) (by decide) (t_J5_length hG hs) (fun _ _ _ hf => hf) (RC.hp hB h1 rfl) rfl (by exact Nat.le_of_ble_eq_true rfl) (by omega) (by omega) (fun v9 h' sz' hr => ?_) rfl
  obtain ⟨rfl, rfl, rfl⟩ := hr
  exact V.iret (pc := 4) hB dJ4_length_8abf5_4 rfl ⟨rfl, rfl, rfl⟩
set_option maxRecDepth 100000 in
set_option maxHeartbeats 4000000 in
theorem t_J5_isLatin1 (hG : GK g) {z : xE} (hE : GE g z) {h : xH} {sz b v n cap : Nat} {f : Nat → Int32} (hs : SBH g h b v n cap f) : Ct g yJ5_isLatin1_aae02 (.code yJ5_isLatin1_aae02 cJ5_isLatin1_aae02 1 (some .boolean)) 1 0 0 [.ref b] h sz (fun r h' sz' => r = some (.int 1) ∧ h' = h ∧ sz' = sz) noT := by
  obtain ⟨⟨x2, h1⟩, -⟩ := hs
  refine Ct.mk hG RJ5 rfl (by decide +kernel) rfl (Nat.le_of_ble_eq_true rfl) (fun B hB hX _ => ?_)
  show V g B 0 0 _ h sz 0 [some (.ref b)] []
  refine V.gets (pc := 0) hB (hE.cs) wf_J5_18 dJ5_isLatin1_aae02_0 ?_
  refine V.if_eq (pc := 3) (tgt := 17) hB dJ5_isLatin1_aae02_3 (by decide) (fun c_3 => absurd c_3 (by decide)) (fun c_3 => ?_)
  refine V.aload_n (pc := 6) hB dJ5_isLatin1_aae02_6 rfl ?_
  refine V.get (pc := 7) hB fk_SB 1 wf_J5_22 dJ5_isLatin1_aae02_7 (by decide) h1 rfl ?_
  refine V.if_ne (pc := 10) (tgt := 17) hB dJ5_isLatin1_aae02_10 (by decide) (fun c_10 => absurd rfl c_10) (fun c_10 => ?_)
  refine V.iconst (pc := 13) (v := 1) hB dJ5_isLatin1_aae02_13 rfl ?_
  refine V.goto (pc := 14) (tgt := 18) hB dJ5_isLatin1_aae02_14 (by decide) ?_
  exact V.zret (pc := 18) hB dJ5_isLatin1_aae02_18 rfl rfl ⟨rfl, rfl, rfl⟩
set_option maxRecDepth 100000 in
set_option maxHeartbeats 4000000 in
theorem t_J7_checkLength (hG : GK g) {h : xH} {sz n : Nat} (hn : n ≤ 1000) : Ct g yJ7_checkLength_df160 (.code yJ7_checkLength_df160 cJ7_checkLength_df160 2 none) 1 0 0 [.int 0, .int (nI n)] h sz (fun r h' sz' => r = none ∧ h' = h ∧ sz' = sz) noT := by
  refine Ct.mk hG RJ7 rfl (by decide +kernel) rfl (Nat.le_of_ble_eq_true rfl) (fun B hB hX _ => ?_)
  show V g B 0 0 _ h sz 0 [some (.int 0), some (.int (nI n))] []
  refine V.iload_n (pc := 0) hB dJ7_checkLength_df160_0 rfl ?_
  refine V.iload_n (pc := 1) hB dJ7_checkLength_df160_1 rfl ?_
  refine V.icmp_ge (pc := 2) (tgt := 37) hB dJ7_checkLength_df160_2 (by decide) (fun c_2 => ?_) (fun c_2 => absurd ((nI_leI (a := 0) (by decide) (by omega)).mpr (Nat.zero_le n)) c_2)
  exact V.vret (pc := 37) hB dJ7_checkLength_df160_37 rfl ⟨rfl, rfl, rfl⟩
set_option maxRecDepth 100000 in
set_option maxHeartbeats 4000000 in
theorem t_J7_copyOfRangeByte (hG : GK g) {h : xH} {sz v n cap : Nat} {f : Nat → Int32} (h1 : h v = some (.inl (g.2.2.1 4, cap, .inl f))) (hn : n ≤ cap) (hc : cap ≤ 200) (hf : ∀ j, j < cap → fits .byte (.int (f j)) = true) : Ct g yJ7_copyOfRangeByte_39247 (.code yJ7_copyOfRangeByte_39247 cJ7_copyOfRangeByte_39247 5 (some (.array .byte))) 2 1 200 [.ref v, .int 0, .int (nI n)] h sz (fun r h' sz' => r = some (.ref sz) ∧ sz' = sz + 1 ∧ ∃ F : Nat → Int32, (∀ j, j < n → F j = f j) ∧ h' = hx h sz (.inl (g.2.2.1 4, n, .inl F))) noT := by
  refine Ct.mk hG RJ7 rfl (by decide +kernel) rfl (Nat.le_of_ble_eq_true rfl) (fun B hB hX _ => ?_)
  show V g B 0 0 _ h sz 0 [some (.ref v), some (.int 0), some (.int (nI n)), none, none] []
  refine V.bound hB h1 (fun hlt hle => ?_)
  refine V.iload_n (pc := 0) hB dJ7_copyOfRangeByte_39247_0 rfl ?_
  refine V.iload_n (pc := 1) hB dJ7_copyOfRangeByte_39247_1 rfl ?_
  refine V.callS (pc := 2) hB cw_J7_checkLength_df160 wm_J7_343 wst_J7_checkLength_df160 dJ7_copyOfRangeByte_39247_2 (by decide) (by decide) (t_J7_checkLength hG (by omega)) rfl (by exact Nat.le_of_ble_eq_true rfl) (by omega) (by omega) (fun _ _ _ hf => hf.elim) (fun v9 h' sz' hr => ?_) rfl
  obtain ⟨rfl, rfl, rfl⟩ := hr
  refine V.iload_n (pc := 5) hB dJ7_copyOfRangeByte_39247_5 rfl ?_
  refine V.iload_n (pc := 6) hB dJ7_copyOfRangeByte_39247_6 rfl ?_
  refine V.isub (pc := 7) hB dJ7_copyOfRangeByte_39247_7 ?_
  rw [show nI n - 0 = nI n from nI_subN (b := 0) (Nat.zero_le n)]
  refine V.istore_n (pc := 8) hB dJ7_copyOfRangeByte_39247_8 (by decide) rfl ?_
  refine V.iload_n (pc := 9) hB dJ7_copyOfRangeByte_39247_9 rfl ?_
  refine V.newarr (pc := 10) hB 4 (atype := .byte) (N' := n) (a0 := (n, .inl (fun _ => 0))) war_byte rfl rfl (fun cA => rfl) (nI_pos (by omega)) (nI_clamp (by omega)) (by show n * 1 ≤ 536870912; omega) (by omega) (by omega) dJ7_copyOfRangeByte_39247_10 ?_
  refine V.astore (pc := 12) hB dJ7_copyOfRangeByte_39247_12 (by decide) rfl ?_
  refine V.aload_n (pc := 14) hB dJ7_copyOfRangeByte_39247_14 rfl ?_
  refine V.iload_n (pc := 15) hB dJ7_copyOfRangeByte_39247_15 rfl ?_
  refine V.aload (pc := 16) hB dJ7_copyOfRangeByte_39247_16 rfl ?_
  refine V.iconst (pc := 18) (v := 0) hB dJ7_copyOfRangeByte_39247_18 rfl ?_
  refine V.aload_n (pc := 19) hB dJ7_copyOfRangeByte_39247_19 rfl ?_
  have he0 : hx h' sz' (.inl (g.2.2.1 4, n, .inl (fun _ => 0))) v = some (.inl (g.2.2.1 4, cap, .inl f)) := (hx_ne _ _ (by omega)).trans h1
  refine V.alen (pc := 20) (t := 4) (v := nI cap) hB rfl dJ7_copyOfRangeByte_39247_20 he0 rfl ?_
  refine V.iload_n (pc := 21) hB dJ7_copyOfRangeByte_39247_21 rfl ?_
  refine V.isub (pc := 22) hB dJ7_copyOfRangeByte_39247_22 ?_
  rw [show nI cap - 0 = nI cap from nI_subN (b := 0) (Nat.zero_le cap)]
  refine V.iload_n (pc := 23) hB dJ7_copyOfRangeByte_39247_23 rfl ?_
  refine V.callS (pc := 24) hB cw_J9_min_7cf53 wm_J7_304 wst_J9_min_7cf53 dJ7_copyOfRangeByte_39247_24 (by decide) (by decide) (t_min hG) rfl (by exact Nat.le_of_ble_eq_true rfl) (by omega) (by omega) (fun _ _ _ hf => hf.elim) (fun v9 h2 sz2 hq => ?_) rfl
  obtain ⟨rfl, rfl, rfl⟩ := hq
  rw [minN (by omega) (by omega), Nat.min_eq_right hn]
  refine V.acopy (pc := 27) (t := 4) (ty := .byte) hB wm_J7_150 rfl rfl dJ7_copyOfRangeByte_39247_27 he0 (hx_at _ _ _) (by decide) (by decide) (nI_pos (by omega)) (by rw [nI_clamp (by omega), show (0 : Int32).toNatClampNeg = 0 from rfl]; omega) (by rw [nI_clamp (by omega), show (0 : Int32).toNatClampNeg = 0 from rfl]; omega) (fun i hi => ?_) (by decide) (by exact Nat.le_of_ble_eq_true rfl) (h' := hx h' sz' (.inl (g.2.2.1 4, n, .inl (va_cpy f (fun _ => 0) 0 0 n)))) ?_ (fun q hq => (hx_ne _ _ hq).trans (hx_ne _ _ hq).symm) ?_
  · rw [nI_clamp (by omega)] at hi
    have := hf i (by omega)
    rwa [show (0 : Int32).toNatClampNeg + i = i from Nat.zero_add i]
  · rw [nI_clamp (by omega)]
    exact hx_at _ _ _
  refine V.aload (pc := 30) hB dJ7_copyOfRangeByte_39247_30 rfl ?_
  exact V.wid (by omega) (by omega) (V.aret (pc := 32) hB dJ7_copyOfRangeByte_39247_32 rfl (Or.inr ⟨_, rfl⟩) ⟨rfl, rfl, _, fun j hj => sb_cpy0 hj, rfl⟩)
set_option maxRecDepth 100000 in
set_option maxHeartbeats 4000000 in
theorem t_J7_copyOfRange (hG : GK g) {h : xH} {sz v n cap : Nat} {f : Nat → Int32} (h1 : h v = some (.inl (g.2.2.1 4, cap, .inl f))) (hn : n ≤ cap) (hc : cap ≤ 200) (hf : ∀ j, j < cap → fits .byte (.int (f j)) = true) : Ct g yJ7_copyOfRange_39247 (.code yJ7_copyOfRange_39247 cJ7_copyOfRange_39247 3 (some (.array .byte))) 3 1 200 [.ref v, .int 0, .int (nI n)] h sz (fun r h' sz' => r = some (.ref sz) ∧ sz' = sz + 1 ∧ ∃ F : Nat → Int32, (∀ j, j < n → F j = f j) ∧ h' = hx h sz (.inl (g.2.2.1 4, n, .inl F))) noT := by
  refine Ct.mk hG RJ7 rfl (by decide +kernel) rfl (Nat.le_of_ble_eq_true rfl) (fun B hB hX _ => ?_)
  show V g B 0 0 _ h sz 0 [some (.ref v), some (.int 0), some (.int (nI n))] []
  refine V.iload_n (pc := 0) hB dJ7_copyOfRange_39247_0 rfl ?_
  refine V.if_ne (pc := 1) (tgt := 10) hB dJ7_copyOfRange_39247_1 (by decide) (fun c_1 => absurd rfl c_1) (fun c_1 => ?_)
  refine V.iload_n (pc := 4) hB dJ7_copyOfRange_39247_4 rfl ?_
  refine V.aload_n (pc := 5) hB dJ7_copyOfRange_39247_5 rfl ?_
  refine V.alen (pc := 6) (t := 4) (v := nI cap) hB rfl dJ7_copyOfRange_39247_6 h1 rfl ?_
  refine V.icmp_eq (pc := 7) (tgt := 17) hB dJ7_copyOfRange_39247_7 (by decide) (fun c_7 => ?_) (fun c_7 => ?_)
  · have e : n = cap := (nI_inj' (by omega) (by omega)).mp c_7
    subst e
    refine V.aload_n (pc := 17) hB dJ7_copyOfRange_39247_17 rfl ?_
    refine V.clone (pc := 18) hB wm_J7_310 h1 (fun i w hw => ?_) (by decide) (by exact Nat.le_of_ble_eq_true rfl) (by omega) (by show 0 + n ≤ 200; omega) dJ7_copyOfRange_39247_18 ?_
    · by_cases hi : i < n
      · have hw2 : (arrV (g.2.2.1 4) n (fun j => .int (f j))).slots[i]? = some w := hw
        rw [arrV_read _ _ hi] at hw2
        cases hw2
        exact hf i hi
      · have hw2 : (arrV (g.2.2.1 4) n (fun j => .int (f j))).slots[i]? = some w := hw
        rw [Array.getElem?_eq_none (by rw [arrV_size]; omega)] at hw2
        cases hw2
    refine V.castB (pc := 21) hB wc_J7_311 (hx_at _ _ _) dJ7_copyOfRange_39247_21 ?_
    exact V.wid (by omega) (by show 0 + n ≤ 200; omega) (V.aret (pc := 24) hB dJ7_copyOfRange_39247_24 rfl (Or.inr ⟨_, rfl⟩) ⟨rfl, rfl, f, fun _ _ => rfl, rfl⟩)
  · refine V.aload_n (pc := 10) hB dJ7_copyOfRange_39247_10 rfl ?_
    refine V.iload_n (pc := 11) hB dJ7_copyOfRange_39247_11 rfl ?_
    refine V.iload_n (pc := 12) hB dJ7_copyOfRange_39247_12 rfl ?_
    refine V.callS (pc := 13) hB cw_J7_copyOfRangeByte_39247 wm_J7_339 wst_J7_copyOfRangeByte_39247 dJ7_copyOfRange_39247_13 (by decide) (by decide) (t_J7_copyOfRangeByte hG h1 hn hc hf) rfl (by exact Nat.le_of_ble_eq_true rfl) (by omega) (by omega) (fun _ _ _ hf => hf.elim) (fun v9 h' sz' hr => ?_) rfl
    obtain ⟨rfl, hr⟩ := hr
    exact V.wid (by omega) (by omega) (V.aret (pc := 16) hB dJ7_copyOfRange_39247_16 rfl (Or.inr ⟨_, rfl⟩) ⟨rfl, hr⟩)
/-- behind h: a String at a, its n bytes F at w -/
def NS (g : xG) (h h' : xH) (a w n : Nat) (F : Nat → Int32) : Prop := h' = hx (hx h a (.inr (8, [.ref w, .int 0, .int 0, .int 0]))) w (.inl (g.2.2.1 4, n, .inl F))
set_option maxRecDepth 100000 in
set_option maxHeartbeats 4000000 in
theorem t_J0_init_db425 (hG : GK g) {z : xE} (hE : GE g z) {h : xH} {a b v n cap : Nat} {f : Nat → Int32} (hs : SBH g h b v n cap f) (hb9 : b < a) (hv9 : v < a) : Ct g yJ0_init_db425 (.code yJ0_init_db425 cJ0_init_db425 5 none) 4 1 200 [.ref a, .ref b, .null] (hx h a (.inr (8, [.null, .int 0, .int 0, .int 0]))) (a + 1) (fun r h' sz' => r = none ∧ sz' = a + 1 + 1 ∧ ∃ F : Nat → Int32, (∀ j, j < n → F j = f j) ∧ NS g h h' a (a + 1) n F) noT := by
  refine Ct.mk hG RJ0 rfl (by decide +kernel) rfl (Nat.le_of_ble_eq_true rfl) (fun B hB _ hi => ?_)
  have hI := hi rfl
  show V g B 0 0 _ (hx h a (.inr (8, [.null, .int 0, .int 0, .int 0]))) (a + 1) 0 [some (.ref a), some (.ref b), some .null, none, none] []
  have hs0 : ∀ e, SBH g (hx h a e) b v n cap f := fun e => hs.keep (hx_ne _ _ (by omega)) (hx_ne _ _ (by omega))
  obtain ⟨x2, h1⟩ := hs.1
  have h1' : ∀ e, hx h a e b = some (.inr (9, [.ref v, .int 0, .int x2, .int (nI n)])) := fun e => (hx_ne _ _ (by omega)).trans h1
  refine V.aload_n (pc := 0) hB dJ0_init_db425_0 rfl ?_
  refine V.objInit (pc := 1) hB wmo_J0 dJ0_init_db425_1 (by decide) (by exact Nat.le_of_ble_eq_true rfl) ?_
  refine V.aload_n (pc := 4) hB dJ0_init_db425_4 rfl ?_
  refine V.callU (pc := 5) (C := RJ4) hB cw_J5_getValue_6d5f1 wm_J0_552 wsm_J5_getValue_6d5f1 ⟨rfl, rfl⟩ wi_J5_getValue_6d5f1 wse_J5_getValue_6d5f1 dJ0_init_db425_5 (by decide) (by decide) (t_J5_getValue hG (hs0 _)) (fun _ _ _ hf => hf) (RC.hp hB (h1' _) (ci := 9) rfl) rfl (by exact Nat.le_of_ble_eq_true rfl) (by omega) (by omega) (fun v9 h' sz' hr => ?_) rfl
  obtain ⟨rfl, rfl, rfl⟩ := hr
  refine V.astore_n (pc := 8) hB dJ0_init_db425_8 (by decide) rfl ?_
  refine V.aload_n (pc := 9) hB dJ0_init_db425_9 rfl ?_
  refine V.callO (pc := 10) (C := RJ4) hB cw_J4_length_8abf5 cw_J5_length_8abf5 wi_J5_length_8abf5 wm_J0_549 wsm_J5_length_8abf5 wi_J4_length_8abf5 wse_J4_length_8abf5 dJ0_init_db425_10 (by decide) (by decide) (t_J4_length hG (hs0 _)) (fun _ _ _ hf => hf) (RC.hp hB (h1' _) (ci := 9) rfl) rfl (by exact Nat.le_of_ble_eq_true rfl) (by omega) (by omega) (fun v9 h' sz' hr => ?_) rfl
  obtain ⟨rfl, rfl, rfl⟩ := hr
  refine V.istore (pc := 13) hB dJ0_init_db425_13 (by decide) rfl ?_
  refine V.aload_n (pc := 15) hB dJ0_init_db425_15 rfl ?_
  refine V.callU (pc := 16) (C := RJ4) hB cw_J5_isLatin1_aae02 wm_J0_1047 wsm_J5_isLatin1_aae02 ⟨rfl, rfl⟩ wi_J5_isLatin1_aae02 wse_J5_isLatin1_aae02 dJ0_init_db425_16 (by decide) (by decide) (t_J5_isLatin1 hG hE (hs0 _)) (fun _ _ _ hf => hf) (RC.hp hB (h1' _) (ci := 9) rfl) rfl (by exact Nat.le_of_ble_eq_true rfl) (by omega) (by omega) (fun v9 h' sz' hr => ?_) rfl
  obtain ⟨rfl, rfl, rfl⟩ := hr
  refine V.if_eq (pc := 19) (tgt := 41) hB dJ0_init_db425_19 (by decide) (fun c_19 => absurd c_19 (by decide)) (fun c_19 => ?_)
  refine V.aload_n (pc := 22) hB dJ0_init_db425_22 rfl ?_
  refine V.iconst (pc := 23) (v := 0) hB dJ0_init_db425_23 rfl ?_
  have hini : ∀ p l e R s m args below meth c, B = (p, l, e, R, s, m, args, below, meth, c) → meth.name = "<init>" := fun p l e R s m args below meth c hb => by subst hb; exact hI
  refine V.putF (pc := 24) hB hini fk_Str 1 wf_J0_15 dJ0_init_db425_24 (by decide) rfl rfl (hx_at _ _ _) (by decide) rfl rfl (h' := hx h a (.inr (8, [.null, .int 0, .int 0, .int 0]))) (hx_at _ _ _) (fun q hq => rfl) ?_
  refine V.aload_n (pc := 27) hB dJ0_init_db425_27 rfl ?_
  refine V.aload_n (pc := 28) hB dJ0_init_db425_28 rfl ?_
  refine V.iconst (pc := 29) (v := 0) hB dJ0_init_db425_29 rfl ?_
  refine V.iload (pc := 30) hB dJ0_init_db425_30 rfl ?_
  refine V.callS (pc := 32) hB cw_J7_copyOfRange_39247 wm_J0_54 wst_J7_copyOfRange_39247 dJ0_init_db425_32 (by decide) (by decide) (t_J7_copyOfRange hG ((hs0 _).2.1) hs.2.2.1 hs.2.2.2.1 hs.2.2.2.2) rfl (by exact Nat.le_of_ble_eq_true rfl) (by omega) (by omega) (fun _ _ _ hf => hf.elim) (fun v9 h' sz' hr => ?_) rfl
  obtain ⟨rfl, rfl, F, hF, rfl⟩ := hr
  refine V.putF (pc := 35) hB hini fk_Str 0 wf_J0_9 dJ0_init_db425_35 (by decide) rfl rfl ((hx_ne _ _ (by omega)).trans (hx_at _ _ _)) (by decide) rfl rfl (h' := hx (hx h a (.inr (8, [.ref (a + 1), .int 0, .int 0, .int 0]))) (a + 1) (.inl (g.2.2.1 4, n, .inl F))) ((hx_ne _ _ (by omega)).trans (hx_at _ _ _)) (fun q hq => ?_) ?_
  · by_cases e : q = a + 1
    · subst e; exact (hx_at _ _ _).trans (hx_at _ _ _).symm
    · exact ((hx_ne _ _ e).trans (hx_ne _ _ hq)).trans ((hx_ne _ _ e).trans (hx_ne _ _ hq)).symm
  refine V.goto (pc := 38) (tgt := 97) hB dJ0_init_db425_38 (by decide) ?_
  exact V.wid (by omega) (by omega) (V.vret (pc := 97) hB dJ0_init_db425_97 rfl ⟨rfl, rfl, F, hF, rfl⟩)
set_option maxRecDepth 100000 in
set_option maxHeartbeats 4000000 in
theorem t_J0_init_81219 (hG : GK g) {z : xE} (hE : GE g z) {h : xH} {a b v n cap : Nat} {f : Nat → Int32} (hs : SBH g h b v n cap f) (hb9 : b < a) (hv9 : v < a) : Ct g yJ0_init_81219 (.code yJ0_init_81219 cJ0_init_81219 2 none) 5 1 200 [.ref a, .ref b] (hx h a (.inr (8, [.null, .int 0, .int 0, .int 0]))) (a + 1) (fun r h' sz' => r = none ∧ sz' = a + 1 + 1 ∧ ∃ F : Nat → Int32, (∀ j, j < n → F j = f j) ∧ NS g h h' a (a + 1) n F) noT := by
  refine Ct.mk hG RJ0 rfl (by decide +kernel) rfl (Nat.le_of_ble_eq_true rfl) (fun B hB _ hi => ?_)
  show V g B 0 0 _ (hx h a (.inr (8, [.null, .int 0, .int 0, .int 0]))) (a + 1) 0 [some (.ref a), some (.ref b)] []
  refine V.aload_n (pc := 0) hB dJ0_init_81219_0 rfl ?_
  refine V.aload_n (pc := 1) hB dJ0_init_81219_1 rfl ?_
  refine V.null (pc := 2) hB dJ0_init_81219_2 ?_
  refine V.callI (pc := 3) (av := [.ref b, .null]) hB cw_J0_init_db425 wm_J0_489 rfl wi_J0_init_db425 dJ0_init_81219_3 (d' := 4) (by omega) (by decide) (t_J0_init_db425 hG hE hs hb9 hv9) (fun _ _ _ hf => hf) rfl (by decide) (by omega) (by omega) (fun v h2 sz2 hq => ?_) rfl
  obtain ⟨rfl, hq⟩ := hq
  exact V.wid (by omega) (by omega) (V.vret (pc := 6) hB dJ0_init_81219_6 rfl ⟨rfl, hq⟩)
set_option maxRecDepth 100000 in
set_option maxHeartbeats 4000000 in
theorem t_J4_toString (hG : GK g) {z : xE} (hE : GE g z) {h : xH} {sz b v n cap : Nat} {f : Nat → Int32} (hs : SBH g h b v n cap f) : Ct g yJ4_toString_0e30d (.code yJ4_toString_0e30d cJ4_toString_0e30d 1 (some (.object "java/lang/String"))) 6 2 204 [.ref b] h sz (fun r h' sz' => r = some (.ref sz) ∧ sz' = sz + 2 ∧ ∃ F : Nat → Int32, (∀ j, j < n → F j = f j) ∧ NS g h h' sz (sz + 1) n F) noT := by
  refine Ct.mk hG RJ4 rfl (by decide +kernel) rfl (Nat.le_of_ble_eq_true rfl) (fun B hB _ _ => ?_)
  show V g B 0 0 _ h sz 0 [some (.ref b)] []
  obtain ⟨x2, h1⟩ := hs.1
  refine V.bound hB h1 (fun hb9 _ => ?_)
  refine V.bound hB hs.2.1 (fun hv9 _ => ?_)
  refine V.newo (pc := 0) hB fk_Str wc_J4_18 wib_J0 wn_J0 (fs := [.null, .int 0, .int 0, .int 0]) (fun j hj => ?_) (by omega) (by omega) dJ4_toString_0e30d_0 ?_
  · match j, hj with
    | 0, _ => rfl
    | 1, _ => rfl
    | 2, _ => rfl
    | 3, _ => rfl
  refine V.dup (pc := 3) hB dJ4_toString_0e30d_3 rfl ?_
  refine V.aload_n (pc := 4) hB dJ4_toString_0e30d_4 rfl ?_
  refine V.callI (pc := 5) (av := [.ref b]) hB cw_J0_init_81219 wm_J4_137 rfl wi_J0_init_81219 dJ4_toString_0e30d_5 (d' := 5) (by omega) (by decide) (t_J0_init_81219 hG hE hs hb9 hv9) (fun _ _ _ hf => hf) rfl (by exact Nat.le_of_ble_eq_true rfl) (by omega) (by omega) (fun v h2 sz2 hq => ?_) rfl
  obtain ⟨rfl, rfl, hq⟩ := hq
  exact V.wid (by omega) (by omega) (V.aret (pc := 8) hB dJ4_toString_0e30d_8 rfl (Or.inl ⟨_, rfl⟩) ⟨rfl, rfl, hq⟩)
end TS
