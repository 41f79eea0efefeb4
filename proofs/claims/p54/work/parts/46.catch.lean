/-! methods with handlers: their contract, their call, what is caught; a long and a double written -/
def CWW (y : MethodName) (bytes : ByteArray) (maxL : Nat) (rt : Option FieldType) (hh : List (Nat × Nat × Nat × Nat)) (np : Nat) : Prop := WD (.codeWith y bytes maxL rt hh) ∧ WD (.initialized y.cls) ∧ (y.cls ≠ "java/lang/invoke/MethodHandle" ∧ y.cls ≠ "java/lang/invoke/VarHandle" ∧ (parseMethodDescriptor y.desc).map (fun d => d.parameters.length) = some np)
theorem Ct.mkH {g : xG} (hG : GK g) {y : MethodName} {cc : ByteArray} {nL : Nat} {ret : Option FieldType} {hh : List (Nat × Nat × Nat × Nat)} {d mc ms : Nat} {av : List Value} {h : xH} {sz : Nat} {Qr : Option Value → xH → Nat → Prop} {Qx : String → xH → Nat → Prop} (own : String) (hown : y.cls = own) (hy : plainName y.cls = true) (h1 : av.all (fun v => v.category == 1) = true) (h2 : av.length ≤ nL)
    (body : ∀ B : BT, Bd g B cc nL own ret d mc ms → Bx B hh → V g B 0 0 (QE g B mc ms Qr Qx) h sz 0 (ls0 av nL) []) : Ct g y (.codeWith y cc nL ret hh) d mc ms av h sz Qr Qx := by
  subst hown
  intro l hfl
  refine vx_ofWH (cc := cc) (maxL := nL) (ret := ret) (hh := hh) (ws' := []) hy rfl ?_
  intro p e s m args below meth c s₁ B hml hv
  obtain ⟨rfl, hW, hz⟩ := hv
  have hbd : Bd g (p, l, e, (headSpec [.codeWith y cc nL ret hh] (xRm d mc ms)).room, s, m, av.toArray, below, meth, c) cc nL y.cls ret d mc ms := ⟨B.exec, B.bytes, hml, findClass_of_methodNamed B.named, B.returns, B.notSynchronized, hG, hW, rfl, hfl⟩
  have hk := body _ hbd (vx_table (x := y) B (atoms_spec (ws := [.codeWith y cc nL ret hh]) B.pre _ List.mem_cons_self))
  have := hk s.heap [] ((lg_sl av ++ List.replicate (nL - (lg_sl av).length) Slot.unset).toArray) hz (by rw [hml]; exact LH.entry h1 h2)
  rw [lg_entry_eq]
  exact this
theorem CC.mkH {g : xG} (hG : GK g) {y : MethodName} {cc : ByteArray} {nL : Nat} {ret : Option FieldType} {hh : List (Nat × Nat × Nat × Nat)} {d mc ms : Nat} {av : List Value} {m : Mem} {P : OV → Mem → Prop} {PX : String → Mem → Prop} (own : String) (hown : y.cls = own) (hy : plainName y.cls = true) (h1 : av.all (fun v => v.category == 1) = true) (h2 : av.length ≤ nL)
    (body : ∀ (sz : Nat) (B : BT), Bd g B cc nL own ret d mc ms → Bx B hh → V g B 0 0 (QM g B mc ms P PX) (hp g m) sz 0 (ls0 av nL) []) : CC g y (.codeWith y cc nL ret hh) d mc ms av m P PX :=
  fun sz => Ct.mkH hG own hown hy h1 h2 (fun B hB hX => body sz B hB hX)
section VH
variable {g : xG} {B : BT} {k n : Nat} {Q : State → Prop} {h : xH} {m : Mem} {sz pc : Nat} {ls : List (Option Value)} {st : List Value} {cc : ByteArray} {nL : Nat} {own : String} {ret : Option FieldType} {d mc ms : Nat}
/-- what the start says of two exceptions: none is the other -/
def NCx (E nm : String) : Prop := Cond.not (.castable E nm) ∈ flatC (Jvm.Cond.and given_1 narrow_1)
theorem VX.catch (hB : Bd g B cc nL own ret d mc ms) {hh : List (Nat × Nat × Nat × Nat)} (hX : Bx B hh) {E name : String} (h1 : List (Nat × Nat × Nat × Nat)) (q : Nat × Nat × Nat × Nat) (h2 : List (Nat × Nat × Nat × Nat)) (hsp : hh = h1 ++ q :: h2) (hpass : ∀ z ∈ h1, z.2.2.2 ≠ 0 ∧ ∃ nm : String, WD (.classLink own z.2.2.2 nm) ∧ NCx E nm) (hx : covers ⟨q.1, q.2.1, q.2.2.1, q.2.2.2⟩ pc = true) (h0 : q.2.2.2 ≠ 0) (hl : WD (.classLink own q.2.2.2 name)) (hc : Cond.castable E name ∈ lw_tbl)
    (kk : ∀ a : Nat, V g B k n Q h sz q.2.2.1 ls [.ref a]) : VX g B k n Q h sz pc ls E := by
  obtain ⟨p, l, e, R, s, mm, args, below, meth, c⟩ := B
  obtain ⟨hx1, hb, hml, hown, hr9, hlk, hG, hW, hR, hfl⟩ := hB
  intro H locs A st ce a hz hl0 e1 e2 e3
  obtain ⟨b, hbw, hnw⟩ := hG.nd
  have hX1 : c.exceptionTable.toList = tableOf hh := hX
  refine vx_catch (own := own) (name := name) (E := E) hown (tableOf h1) ⟨q.1, q.2.1, q.2.2.1, q.2.2.2⟩ (tableOf h2) (by rw [hX1, hsp]; unfold tableOf; rw [List.map_append]; rfl) (fun z hz2 => ?_) hx h0 (hl.of hG args hW) (va_Nw.use rfl (va_Nw.warmC hW (va_Nw.of rfl (hbw _ hc)))) e1 e2 e3 (kk a H locs A hz hl0)
  unfold tableOf at hz2
  obtain ⟨z0, hz0, rfl⟩ := List.mem_map.mp hz2
  obtain ⟨n0, nm, w1, w2⟩ := hpass z0 hz0
  exact Or.inr ⟨n0, nm, w1.of hG args hW, va_Nc.moved hW.alike (va_Nc.of (hnw _ w2))⟩
theorem V.callSW (hB : Bd g B cc nL own ret d mc ms) {y : MethodName} {bytes : ByteArray} {maxL np idx d' mc' ms' : Nat} {rt : Option FieldType} {hh : List (Nat × Nat × Nat × Nat)} {av : List Value} {Qr' : Option Value → xH → Nat → Prop} {Qx' : String → xH → Nat → Prop}
    (hC : CWW y bytes maxL rt hh np) (hl : WD (.methodLink own idx y)) (hse : WD (.static y)) (hd : decode cc pc = .ok (.invokestatic idx, 3)) (hd' : d' < d) (hL : maxL ≤ 300)
    (hM : Ct g y (.codeWith y bytes maxL rt hh) d' mc' ms' av h sz Qr' Qx') (hnp : av.length = np) (hst : (st.map fun v => v.category).sum ≤ 8) (hc : k + mc' ≤ mc) (hs : n + ms' ≤ ms)
    (kx : ∀ (E : String) (h' : xH) (sz' : Nat), Qx' E h' sz' → VX g B (k + mc') (n + ms') Q h' sz' pc ls E)
    (kk : ∀ (v : Option Value) (h' : xH) (sz' : Nat), Qr' v h' sz' → V g B (k + mc') (n + ms') Q h' sz' (pc + 3) ls (v.toList ++ st)) {st0 : List Value} (hst0 : st0 = av.reverse ++ st) : V g B k n Q h sz pc ls st0 := by
  refine V.ofRun (av := av) hB (h0 := h) (sz0 := sz) (fun p l e R s m args below meth c H locs A hBe hz hl0 => ?_) kx kk
  subst hBe
  obtain ⟨hx, hb, hml, hown, hr9, hlk, hG, hW, hR, hfl⟩ := hB
  subst hR
  refine vx_runSX (As := av) (rest := st) (n := np) (hh := hh) (bytes := bytes) (maxL := maxL) (ret := rt) (ws := [.codeWith y bytes maxL rt hh]) (rm := xRm d' mc' ms') ⟨hx, hb, hml, hown, fun w hw => (absurd hw (List.not_mem_nil (a := w)))⟩ (hM l hfl) ⟨⟨rfl, rfl, (xRm_le hd' hL).1, (xRm_le hd' hL).2, fun w hw a' U hU => ?_, List.mem_cons_self⟩, hC.1.of hG args hW, hC.2.1.of hG args hW, ⟨hC.2.2.1, hC.2.2.2.1⟩, fun sig hs9 => ?_, hl.of hG args hW, hse.of hG args hW⟩ ⟨xPc.blind, fun U hU hWU => ⟨rfl, State.WarmedH.trans hW hWU, by rw [hU]; exact hz.locs (fun _ h => by cases h)⟩⟩ rfl hnp (hl0.1.trans hml) hst0 (lv_room hst) hd ⟨hc, hs⟩
  · have : w = .codeWith y bytes maxL rt hh := by simpa using hw
    subst this
    exact hC.1.of hG a' (State.WarmedH.trans hW hU)
  · have h2 := hC.2.2.2.2
    rw [hs9] at h2
    exact (Option.some.inj h2).symm
theorem V.csW (hB : Bd g B cc nL own ret d mc ms) {y : MethodName} {bytes : ByteArray} {maxL np idx d' mc' ms' : Nat} {rt : Option FieldType} {hh : List (Nat × Nat × Nat × Nat)} {av : List Value} {P : OV → Mem → Prop} (hC : CWW y bytes maxL rt hh np) (hl : WD (.methodLink own idx y)) (hse : WD (.static y)) (hd : decode cc pc = .ok (.invokestatic idx, 3)) (hM : CC g y (.codeWith y bytes maxL rt hh) d' mc' ms' av m P noX) (hd' : d' < d) (hL : maxL ≤ 300) (hnp : av.length = np) (hst : (st.map fun v => v.category).sum ≤ 8) (hc : k + mc' ≤ mc) (hs : n + ms' ≤ ms)
    (kk : ∀ (v : OV) (m' : Mem) (sz' : Nat), P v m' → V g B (k + mc') (n + ms') Q (hp g m') sz' (pc + 3) ls (v.toList ++ st)) {st0 : List Value} (hst0 : st0 = av.reverse ++ st) : V g B k n Q (hp g m) sz pc ls st0 :=
  V.callSW hB hC hl hse hd hd' hL (hM sz) hnp hst hc hs (fun E h' sz' ⟨m', e, hq⟩ => hq.elim) (fun v h' sz' ⟨m', e, hq⟩ => by subst e; exact kk v m' sz' hq) hst0
end VH
