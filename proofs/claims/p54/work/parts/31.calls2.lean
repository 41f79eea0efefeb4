/-! more words; calls of inherited, private and super methods; the start's own objects -/
theorem wsp_X8 : WD (.superclass "IceBells$Windows" "java/lang/Object") := WD.at 88 (by decide +kernel) rfl
theorem wsp_X7 : WD (.superclass "IceBells$Peals" "java/lang/Object") := WD.at 119 (by decide +kernel) rfl
theorem wsp_X5 : WD (.superclass "IceBells$Lake" "java/lang/Object") := WD.at 154 (by decide +kernel) rfl
theorem wsp_X6 : WD (.superclass "IceBells$Landscape" "java/lang/Object") := WD.at 187 (by decide +kernel) rfl
theorem wsp_X3 : WD (.superclass "IceBells$History" "java/lang/Object") := WD.at 206 (by decide +kernel) rfl
theorem wsp_X1 : WD (.superclass "IceBells$Command" "java/lang/Object") := WD.at 233 (by decide +kernel) rfl
theorem wsp_X2 : WD (.superclass "IceBells$CommandText" "java/lang/Object") := WD.at 252 (by decide +kernel) rfl
theorem wsp_J4 : WD (.superclass "java/lang/StringBuilder" "java/lang/AbstractStringBuilder") := WD.at 284 (by decide +kernel) rfl
theorem wsp_X9 : WD (.superclass "IceBells" "java/lang/Object") := WD.at 319 (by decide +kernel) rfl
theorem wsp_Jx00060 : WD (.superclass "java/lang/ArrayIndexOutOfBoundsException" "java/lang/IndexOutOfBoundsException") := WD.at 393 (by decide +kernel) rfl
theorem wsm_Jx29ce0_ordinal_8abf5 : WD (.sameMethod "IceBells$Kind" yJx29ce0_ordinal_8abf5.cls yJx29ce0_ordinal_8abf5.name yJx29ce0_ordinal_8abf5.desc) := WD.at 797 (by decide +kernel) rfl
theorem wse_Jx29ce0_ordinal_8abf5 : WD (.selects "IceBells$Kind" ⟨"IceBells$Kind", "ordinal", "()I"⟩ yJx29ce0_ordinal_8abf5) := WD.at 799 (by decide +kernel) rfl
theorem wpr_J5_appendNull_278bc : Cond.privateMethod yJ5_appendNull_278bc ∈ lw_tbl := List.mem_of_getElem? (i := 989) (by decide +kernel)
theorem wpr_J5_ensureCapacityInternal_d00df : Cond.privateMethod yJ5_ensureCapacityInternal_d00df ∈ lw_tbl := List.mem_of_getElem? (i := 993) (by decide +kernel)
theorem wpr_J5_newCapacity_0f7a4 : Cond.privateMethod yJ5_newCapacity_0f7a4 ∈ lw_tbl := List.mem_of_getElem? (i := 997) (by decide +kernel)
theorem wsm_J5_isLatin1_aae02 : WD (.sameMethod "java/lang/AbstractStringBuilder" yJ5_isLatin1_aae02.cls yJ5_isLatin1_aae02.name yJ5_isLatin1_aae02.desc) := WD.at 1023 (by decide +kernel) rfl
theorem wse_J5_isLatin1_aae02 : WD (.selects "java/lang/StringBuilder" yJ5_isLatin1_aae02 yJ5_isLatin1_aae02) := WD.at 1024 (by decide +kernel) rfl
theorem wpr_J5_putStringAt_47b60 : Cond.privateMethod yJ5_putStringAt_47b60 ∈ lw_tbl := List.mem_of_getElem? (i := 1043) (by decide +kernel)
theorem wpr_J5_inflateIfNeededFor_a7421 : Cond.privateMethod yJ5_inflateIfNeededFor_a7421 ∈ lw_tbl := List.mem_of_getElem? (i := 1047) (by decide +kernel)
theorem wpr_J5_inflate_da8c8 : Cond.privateMethod yJ5_inflate_da8c8 ∈ lw_tbl := List.mem_of_getElem? (i := 1052) (by decide +kernel)
theorem wsm_J5_getValue_6d5f1 : WD (.sameMethod "java/lang/AbstractStringBuilder" yJ5_getValue_6d5f1.cls yJ5_getValue_6d5f1.name yJ5_getValue_6d5f1.desc) := WD.at 1118 (by decide +kernel) rfl
theorem wse_J5_getValue_6d5f1 : WD (.selects "java/lang/StringBuilder" yJ5_getValue_6d5f1 yJ5_getValue_6d5f1) := WD.at 1119 (by decide +kernel) rfl
theorem wsm_J5_length_8abf5 : WD (.sameMethod "java/lang/AbstractStringBuilder" yJ5_length_8abf5.cls yJ5_length_8abf5.name yJ5_length_8abf5.desc) := WD.at 1123 (by decide +kernel) rfl
theorem wse_J4_length_8abf5 : WD (.selects "java/lang/StringBuilder" yJ5_length_8abf5 yJ4_length_8abf5) := WD.at 1124 (by decide +kernel) rfl
theorem wsp_J0 : WD (.superclass "java/lang/String" "java/lang/Object") := WD.at 1163 (by decide +kernel) rfl
theorem wsp_Jx7c733 : WD (.superclass "java/lang/StringIndexOutOfBoundsException" "java/lang/IndexOutOfBoundsException") := WD.at 1232 (by decide +kernel) rfl
theorem wsm_J5_append_cf1ce : WD (.sameMethod "java/lang/AbstractStringBuilder" yJ5_append_cf1ce.cls yJ5_append_cf1ce.name yJ5_append_cf1ce.desc) := WD.at 1410 (by decide +kernel) rfl
theorem wsm_J5_appendNull_278bc : WD (.sameMethod "java/lang/AbstractStringBuilder" yJ5_appendNull_278bc.cls yJ5_appendNull_278bc.name yJ5_appendNull_278bc.desc) := WD.at 1411 (by decide +kernel) rfl
theorem wsm_J5_ensureCapacityInternal_d00df : WD (.sameMethod "java/lang/AbstractStringBuilder" yJ5_ensureCapacityInternal_d00df.cls yJ5_ensureCapacityInternal_d00df.name yJ5_ensureCapacityInternal_d00df.desc) := WD.at 1412 (by decide +kernel) rfl
theorem wsm_J5_newCapacity_0f7a4 : WD (.sameMethod "java/lang/AbstractStringBuilder" yJ5_newCapacity_0f7a4.cls yJ5_newCapacity_0f7a4.name yJ5_newCapacity_0f7a4.desc) := WD.at 1413 (by decide +kernel) rfl
theorem wsm_J5_putStringAt_47b60 : WD (.sameMethod "java/lang/AbstractStringBuilder" yJ5_putStringAt_47b60.cls yJ5_putStringAt_47b60.name yJ5_putStringAt_47b60.desc) := WD.at 1414 (by decide +kernel) rfl
theorem wsm_J5_inflateIfNeededFor_a7421 : WD (.sameMethod "java/lang/AbstractStringBuilder" yJ5_inflateIfNeededFor_a7421.cls yJ5_inflateIfNeededFor_a7421.name yJ5_inflateIfNeededFor_a7421.desc) := WD.at 1415 (by decide +kernel) rfl
theorem wsm_J5_inflate_da8c8 : WD (.sameMethod "java/lang/AbstractStringBuilder" yJ5_inflate_da8c8.cls yJ5_inflate_da8c8.name yJ5_inflate_da8c8.desc) := WD.at 1416 (by decide +kernel) rfl
theorem wsm_J5_append_c97b9 : WD (.sameMethod "java/lang/AbstractStringBuilder" yJ5_append_c97b9.cls yJ5_append_c97b9.name yJ5_append_c97b9.desc) := WD.at 1417 (by decide +kernel) rfl
theorem wsm_J5_setLength_d00df : WD (.sameMethod "java/lang/AbstractStringBuilder" yJ5_setLength_d00df.cls yJ5_setLength_d00df.name yJ5_setLength_d00df.desc) := WD.at 1418 (by decide +kernel) rfl
theorem wsm_J5_append_3fe6f : WD (.sameMethod "java/lang/AbstractStringBuilder" yJ5_append_3fe6f.cls yJ5_append_3fe6f.name yJ5_append_3fe6f.desc) := WD.at 1419 (by decide +kernel) rfl
theorem wsm_J5_charAt_5068e : WD (.sameMethod "java/lang/AbstractStringBuilder" yJ5_charAt_5068e.cls yJ5_charAt_5068e.name yJ5_charAt_5068e.desc) := WD.at 1421 (by decide +kernel) rfl
theorem wfn_KINDS : Cond.fieldLinkNest "IceBells$CommandText" 40 "IceBells" "KINDS" "[LIceBells$Kind;" "IceBells" ∈ lw_tbl := List.mem_of_getElem? (i := 699) (by decide +kernel)
theorem GK.priv {g : xG} (hG : GK g) {y : MethodName} (h : Cond.privateMethod y ∈ lw_tbl) {s : State} (hW : g.1.WarmedH s.vm) : s.PrivateAt y := by
  obtain ⟨b, hb, -⟩ := hG.nd
  exact Cond.privateMethod_at (args := #[]) (Cond.privateMethod_warm hW (hb _ h))
theorem Ct.met {g : xG} {y : MethodName} {w0 : Cond} {d mc ms : Nat} {av : List Value} {h : xH} {sz : Nat} {Qr : Option Value → xH → Nat → Prop} {Qx : String → xH → Nat → Prop} (hc : Ct g y w0 d mc ms av h sz Qr Qx) (hno : ∀ E h' sz', ¬ Qx E h' sz') {l : Launch} (hl : l.flags = flags0) : Met l y [w0] (xRm d mc ms) (xPc g av h sz) (xQc g Qr) mc ms (xFree g) :=
  (hc l hl).mono (fun _ _ h => h) (fun _ _ _ _ _ h => h) (fun a s o s' _ hq => by
    rcases hq with hq | ⟨q, e, E, ce, L, ⟨h', sz', hq, _⟩, hr⟩
    · exact hq
    · exact (hno _ _ _ hq).elim)
theorem RZ.old {g : xG} {h : xH} {sz : Nat} {H : Heap} {locs : List Loc} (hz : RZ g h sz H locs) {a : Nat} {cell : Cell} (hc : g.1.heap[a]? = some cell) : H[a]? = some cell := by
  rw [hz.2.2.1 a (Array.getElem?_eq_some_iff.mp hc).1]
  exact hc
/-- the receiver at a is an object of the class C -/
def RC (g : xG) (B : BT) (h : xH) (sz a : Nat) (C : String) : Prop := match B with
  | (_, _, _, _, s, _, _, _, _, _) => ∀ (H : Heap) (locs : List Loc), RZ g h sz H locs → ∃ cell : Cell, H[a]? = some cell ∧ cell.vm.isStatics = false ∧ s.vm.findClass C = some cell.cls
section VU
variable {p : Program} {l : Launch} {e : Env} {R : Room} {s : State} {m : MethodId} {args : Array Value} {below : List Frame} {meth : Method} {c : Code} {H : Heap} {locs : List Loc} {cells slots : Nat}
/-- a private method of a class above the receiver's (after the kit's va_callVU) -/
theorem xp_callVP {T : State} (X : Stand p l e R s m args below meth c T locs cells slots) (hexec : p.tables.exec = Jvm.exec) {own : String} {index : Nat} {y : MethodName} {bytes : ByteArray} {maxL : Nat} {ret : Option FieldType}
    (hown : s.vm.findClass own = some m.cls) (hlink : (Cond.methodLink own index y).before args s = true) (hsame : (Cond.sameMethod y.cls y.cls y.name y.desc).before args s = true)
    (hd0 : va_Decl s y) (howner : y.cls ≠ "java/lang/invoke/MethodHandle" ∧ y.cls ≠ "java/lang/invoke/VarHandle") (hpr : s.PrivateAt y)
    (hinst : (Cond.instanceMethod y).before args s = true)
    {W : Nat} {Pre : Pt → Array Value → Prop} {Post : Pt → Array Value → Option Value → Pt → Prop} (hK : Back l R p e below s args y 3 W Pre Post)
    {b : Addr} {cellB : Cell} (hcell : T.heap[b]? = some cellB) (hobj : cellB.vm.isStatics = false)
    {g : JFrame} (hg : g.method = m) (hsize : g.locals.size = c.maxLocals) {argsL rest : List Value} (hlen : ∀ sig, parseMethodDescriptor y.desc = some sig → argsL.length = sig.parameters.length)
    (hstack : g.stack = argsL.reverse ++ .ref b :: rest) (hW : 2 * g.monitorRoom + (rest.map fun v => v.category).sum ≤ W) (hdg : decode c.code g.pc = .ok (.invokevirtual index, 3))
    (hpre : ∀ vm₁, s.WarmedH vm₁ → Pre ⟨T.setVm vm₁, locs, cells, slots⟩ (Value.ref b :: argsL).toArray) :
    ∃ (v : Option Value) (vm₁ : Vm) (B : Pt), s.WarmedH vm₁ ∧ Stand p l e R s m args below meth c B.U B.locs B.cells B.slots ∧ Post ⟨T.setVm vm₁, locs, cells, slots⟩ (Value.ref b :: argsL).toArray v B ∧
      ∀ target, Steps p.tables e below (B.U.setTop { g with pc := g.pc + 3, stack := v.toList ++ rest }) target → Steps p.tables e below (T.setTop g) target := by
  obtain ⟨r0, r, hn, hrm, hstR, hsigR⟩ := hd0
  obtain ⟨cn, ck, r1, hcn, hck, hni, hf, hn1⟩ := Cond.sameMethod_found hsame
  obtain ⟨mk, methM, hnamed, hmethM, -, habM⟩ := Cond.instanceMethod_spec hinst
  cases hn.symm.trans hnamed
  have hc9 := (findClass_of_methodNamed hnamed).symm.trans hcn
  cases hc9
  have hselP : selectMethod e.platform s.vm cellB.cls r0 = .method r0 := selectMethod_private hmethM (hpr _ _ hnamed hmethM)
  obtain ⟨vm₁, X₁, hstep₁⟩ := X.invokevirtualUp (x := y) (owner := y.cls) hexec hown hlink hsame howner hn hrm hstR (a := b) (cell := cellB) hcell
    (fun z h => by rw [h] at hobj; cases hobj) hselP hmethM habM hck hni (g := g) hg (argsL := argsL) (rest := rest) (hlen _ hsigR) hstack hdg
  obtain ⟨v, B, X', hpost, hsteps⟩ := hK m meth c ⟨T.setVm vm₁, locs, cells, slots⟩ { g with stack := rest } (.invokevirtual index) r0 (Value.ref b :: argsL).toArray X₁ hg hsize hdg hW (X₁.named hnamed) (hpre vm₁ X₁.warmed)
  exact ⟨v, vm₁, B, X₁.warmed, X', hpost, fun target h => hstep₁ _ fun acts => by rw [doInvoke_state]; exact hsteps.trans h⟩
theorem xp_runP {y : MethodName} {bytes cc : ByteArray} {maxL nL mc ms n index : Nat} {ret : Option FieldType} {ws : List Cond} {rm : Room} {Pc : Array Value → State → Prop} {Qc : Array Value → State → Outcome → State → Prop} {free : Addr → Prop} {Ts : List Cond} {own C : String} {b : Addr} {As rest : List Value} {g : JFrame}
    (S : CallFix p m c cc nL s args Ts own) (hM : Met l y ws rm Pc Qc mc ms free) (cw : CallB R s args own index y bytes maxL ret ws rm mc ms n) (hsame : (Cond.sameMethod y.cls y.cls y.name y.desc).before args s = true) (hpr : s.PrivateAt y) (hinst : (Cond.instanceMethod y).before args s = true) (hp : PreV s H C b Pc As)
    (hg : g.method = m) (hn : As.length = n) (hsize : g.locals.size = nL) (hstack : g.stack = As.reverse ++ .ref b :: rest) (hW : 2 * g.monitorRoom + (rest.map fun v => v.category).sum ≤ 8) (hdg : decode cc g.pc = .ok (.invokevirtual index, 3)) (hf : cells + mc ≤ R.cells ∧ slots + ms ≤ R.slots) :
    va_Run p l e R s m args below meth c H locs cells slots mc ms g rest (Qc (Value.ref b :: As).toArray) (free) := by
  have hK : Back l R p e below s args y 3 8 (PreOf R mc ms Pc) (PostOf Qc mc ms free) := callBack cw hM hp.1
  obtain ⟨-, -, -, -, -, -, hcode, -, hy, hlen, hl⟩ := cw
  obtain ⟨hx, hb, hml, ho, -⟩ := S
  obtain ⟨-, ⟨cellB, hcB, hoB, hclB⟩, hPc⟩ := hp
  intro T hT X
  obtain ⟨v, vm₁, ⟨U', l2, c2, s2⟩, hW₁, X', ⟨g', mk, t, L, e1, e2, hq, h1, hL, h2, h3⟩, st⟩ := xp_callVP X hx (bytes := bytes) (maxL := maxL) (ret := ret) ho hl hsame (va_Decl.of hinst hcode) hy hpr hinst hK (by rw [hT]; exact hcB) hoB hg (hsize.trans hml.symm) (argsL := As) (rest := rest) (fun sig h => hn.trans (hlen sig h)) hstack hW (by rw [hb]; exact hdg)
    (fun vm₁ hW₁ => ⟨hf.1, hf.2, hPc (T.setVm vm₁) hT hW₁⟩)
  dsimp only [Pt.U, Pt.locs, Pt.cells, Pt.slots] at X' e1 e2 h1 h2 h3 st
  subst h1; subst h2; subst h3
  exact ⟨v, (T.setVm vm₁).calling g' mk (Value.ref b :: As).toArray, t, U', L, hT, X', hL, e1, e2, hq, st⟩
end VU
section VN
variable {g : xG} {B : BT} {k n : Nat} {Q : State → Prop} {h : xH} {sz pc : Nat} {ls : List (Option Value)} {st : List Value} {cc : ByteArray} {nL : Nat} {own : String} {ret : Option FieldType} {d mc ms : Nat}
theorem RC.hp (hB : Bd g B cc nL own ret d mc ms) {a ci N : Nat} {C : String} {T : u_T} {fs : List Value} (he : h a = some (.inr (ci, fs))) (hci : xcl[ci]? = some (C, T, N)) : RC g B h sz a C := by
  obtain ⟨p, l, e, R, s, m, args, below, meth, c⟩ := B
  obtain ⟨hx, hb, hml, hown, hr9, hlk, hG, hW, hR, hfl⟩ := hB
  intro H locs hz
  obtain ⟨r, g1, cell, g2, g3, g4, -⟩ := (hz.2.2.2.1 a _ he).2
  have hr9 : r = (C, T, N) := Option.some.inj (g1.symm.trans hci)
  subst hr9
  exact ⟨cell, g2, by rw [g4]; rfl, by rw [g3]; exact ((hG.kn hW).1 ci _ hci).2.1⟩
theorem RC.so (hB : Bd g B cc nL own ret d mc ms) {a : Nat} {C : String} (hO : va_O C a (xFree g) g.1 g.1.heap) : RC g B h sz a C := by
  obtain ⟨p, l, e, R, s, m, args, below, meth, c⟩ := B
  obtain ⟨hx, hb, hml, hown, hr9, hlk, hG, hW, hR, hfl⟩ := hB
  intro H locs hz
  obtain ⟨cell, h1, h2, h3, -⟩ := hO.moved hW.alike
  exact ⟨cell, hz.old h1, h2, h3⟩
theorem V.ofRunN (hB : Bd g B cc nL own ret d mc ms) {av : List Value} {mc' ms' : Nat} {Qr' : Option Value → xH → Nat → Prop} {st0 : List Value}
    (hr : ∀ p l e R s m args below meth c H locs A, B = (p, l, e, R, s, m, args, below, meth, c) → RZ g h sz H locs → LH A c.maxLocals ls → va_Run p l e R s m args below meth c H locs k n mc' ms' (F0 m pc A st0) st (xQc g Qr' av.toArray) (xFree g))
    (kk : ∀ (v : Option Value) (h' : xH) (sz' : Nat), Qr' v h' sz' → V g B (k + mc') (n + ms') Q h' sz' (pc + 3) ls (v.toList ++ st)) : V g B k n Q h sz pc ls st0 := by
  obtain ⟨p, l, e, R, s, m, args, below, meth, c⟩ := B
  obtain ⟨hx, hb, hml, hown, hr9, hlk, hG, hW, hR, hfl⟩ := hB
  intro H locs A hz hl0
  have hr1 := hr _ _ _ _ _ _ _ _ _ _ H locs A rfl hz hl0
  intro T hT X
  obtain ⟨v, st₀, t, T', L, e0, X', hL, e1, e2, ⟨v', h', sz', hv, hq, hH⟩, hst⟩ := hr1 T hT X
  cases hv
  obtain ⟨t2, a1, b1⟩ := kk v h' sz' hq T'.heap (locs ++ L) A (by rw [e1]; exact hH.2.locs (fun z hm => (List.mem_append.mp hm).elim (hz.2.2.2.2 z) (hL z))) hl0 T' rfl X'
  exact ⟨t2, hst t2 a1, b1⟩
section
variable {y : MethodName} {bytes : ByteArray} {maxL np idx d' mc' ms' a : Nat} {rt : Option FieldType} {av : List Value} {Qr' : Option Value → xH → Nat → Prop} {Qx' : String → xH → Nat → Prop} {st0 : List Value} {C : String}
/-- invokevirtual: the receiver by its class -/
theorem V.callVR (hB : Bd g B cc nL own ret d mc ms) (hC : CW y bytes maxL rt np) (hl : WD (.methodLink own idx y)) (hin : WD (.instanceMethod y)) (hse : WD (.selects y.cls y y)) (hd : decode cc pc = .ok (.invokevirtual idx, 3)) (hd' : d' < d) (hL : maxL ≤ 300)
    (hM : Ct g y (.code y bytes maxL rt) d' mc' ms' (.ref a :: av) h sz Qr' Qx') (hrc : RC g B h sz a y.cls) (hnp : av.length = np) (hst : (st.map fun v => v.category).sum ≤ 8) (hc : k + mc' ≤ mc) (hs : n + ms' ≤ ms)
    (kx : ∀ (E : String) (h' : xH) (sz' : Nat), Qx' E h' sz' → VX g B (k + mc') (n + ms') Q h' sz' pc ls E)
    (kk : ∀ (v : Option Value) (h' : xH) (sz' : Nat), Qr' v h' sz' → V g B (k + mc') (n + ms') Q h' sz' (pc + 3) ls (v.toList ++ st)) (hst0 : st0 = av.reverse ++ .ref a :: st) : V g B k n Q h sz pc ls st0 := by
  refine V.ofRun (av := .ref a :: av) hB (h0 := h) (sz0 := sz) (fun p l e R s m args below meth c H locs A hBe hz hl0 => ?_) kx kk
  subst hBe
  obtain ⟨hx, hb, hml, hown, hr9, hlk, hG, hW, hR, hfl⟩ := hB
  subst hR
  exact vx_runV (As := av) (rest := st) (n := np) ⟨hx, hb, hml, hown, fun w hw => (absurd hw (List.not_mem_nil (a := w)))⟩ (hM l hfl) ⟨hC.callB hG hW hl (xRm_le hd' hL), hin.of hG args hW, hse.of hG args hW⟩ ⟨xPc.blind, hrc H locs hz, fun U hU hWU => ⟨rfl, State.WarmedH.trans hW hWU, by rw [hU]; exact hz.locs (fun _ h => by cases h)⟩⟩ rfl hnp (hl0.1.trans hml) hst0 (lv_room hst) hd ⟨hc, hs⟩
/-- invokevirtual of a method that is inherited -/
theorem V.callU (hB : Bd g B cc nL own ret d mc ms) {x : MethodName} (hC : CW y bytes maxL rt np) (hl : WD (.methodLink own idx x)) (hsm : WD (.sameMethod x.cls y.cls y.name y.desc)) (hyx : x.name = y.name ∧ x.desc = y.desc) (hin : WD (.instanceMethod y)) (hse : WD (.selects C x y)) (hd : decode cc pc = .ok (.invokevirtual idx, 3)) (hd' : d' < d) (hL : maxL ≤ 300)
    (hM : Ct g y (.code y bytes maxL rt) d' mc' ms' (.ref a :: av) h sz Qr' Qx') (hno : ∀ E h' sz', ¬ Qx' E h' sz') (hrc : RC g B h sz a C) (hnp : av.length = np) (hst : (st.map fun v => v.category).sum ≤ 8) (hc : k + mc' ≤ mc) (hs : n + ms' ≤ ms)
    (kk : ∀ (v : Option Value) (h' : xH) (sz' : Nat), Qr' v h' sz' → V g B (k + mc') (n + ms') Q h' sz' (pc + 3) ls (v.toList ++ st)) (hst0 : st0 = av.reverse ++ .ref a :: st) : V g B k n Q h sz pc ls st0 := by
  refine V.ofRunN (av := .ref a :: av) hB (fun p l e R s m args below meth c H locs A hBe hz hl0 => ?_) kk
  subst hBe
  obtain ⟨hx, hb, hml, hown, hr9, hlk, hG, hW, hR, hfl⟩ := hB
  subst hR
  obtain ⟨xc, xn, xd⟩ := x
  obtain ⟨rfl, rfl⟩ := hyx
  have hcode := hC.1.of hG args hW
  have hinst := hin.of hG args hW
  refine va_runU (As := av) (rest := st) (n := np) (C := C) (owner := y.cls) (x := ⟨xc, y.name, y.desc⟩) (bytes := bytes) (maxL := maxL) (ret := rt) ⟨hx, hb, hml, hown, fun w hw => (absurd hw (List.not_mem_nil (a := w)))⟩ (hM.met hno hfl)
    ⟨⟨rfl, rfl, (xRm_le hd' hL).1, (xRm_le hd' hL).2, fun w hw a' U hU => ?_, List.mem_cons_self⟩, hcode, hC.2.1.of hG args hW, ⟨hC.2.2.1, hC.2.2.2.1⟩, fun sig hs9 => ?_, hl.of hG args hW, hsm.of hG args hW, va_Decl.of (x := y) hinst hcode, hse.of hG args hW, hinst⟩
    ⟨xPc.blind, hrc H locs hz, fun U hU hWU => ⟨rfl, State.WarmedH.trans hW hWU, by rw [hU]; exact hz.locs (fun _ h => by cases h)⟩⟩ rfl hnp (hl0.1.trans hml) hst0 (lv_room hst) hd ⟨hc, hs⟩
  · have : w = .code y bytes maxL rt := by simpa using hw
    subst this
    exact hC.1.of hG a' (State.WarmedH.trans hW hU)
  · have h2 := hC.2.2.2.2
    have hs8 : parseMethodDescriptor y.desc = some sig := hs9
    rw [hs8] at h2
    exact (Option.some.inj h2).symm
/-- invokespecial of the class above -/
theorem V.callSU (hB : Bd g B cc nL own ret d mc ms) {ci N : Nat} {T : u_T} (hci : xcl[ci]? = some (C, T, N)) (hC : CW y bytes maxL rt np) (hl : WD (.methodLink own idx y)) (hsm : WD (.sameMethod y.cls y.cls y.name y.desc)) (hsp : WD (.superclass own y.cls)) (hni : y.name ≠ "<init>") (hin : WD (.instanceMethod y)) (hd : decode cc pc = .ok (.invokespecial idx, 3)) (hd' : d' < d) (hL : maxL ≤ 300)
    (hM : Ct g y (.code y bytes maxL rt) d' mc' ms' (.ref a :: av) h sz Qr' Qx') (hno : ∀ E h' sz', ¬ Qx' E h' sz') (hrc : RC g B h sz a C) (hnp : av.length = np) (hst : (st.map fun v => v.category).sum ≤ 8) (hc : k + mc' ≤ mc) (hs : n + ms' ≤ ms)
    (kk : ∀ (v : Option Value) (h' : xH) (sz' : Nat), Qr' v h' sz' → V g B (k + mc') (n + ms') Q h' sz' (pc + 3) ls (v.toList ++ st)) (hst0 : st0 = av.reverse ++ .ref a :: st) : V g B k n Q h sz pc ls st0 := by
  refine V.ofRunN (av := .ref a :: av) hB (fun p l e R s m args below meth c H locs A hBe hz hl0 => ?_) kk
  subst hBe
  obtain ⟨hx, hb, hml, hown, hr9, hlk, hG, hW, hR, hfl⟩ := hB
  subst hR
  refine va_runSU (As := av) (rest := st) (n := np) (C := C) (bytes := bytes) (maxL := maxL) (ret := rt) ((hG.kn hW).1 ci _ hci).2 ⟨hx, hb, hml, hown, fun w hw => (absurd hw (List.not_mem_nil (a := w)))⟩ (hM.met hno hfl)
    ⟨⟨rfl, rfl, (xRm_le hd' hL).1, (xRm_le hd' hL).2, fun w hw a' U hU => ?_, List.mem_cons_self⟩, hl.of hG args hW, hsm.of hG args hW, hsp.of hG args hW, hin.of hG args hW, hC.2.1.of hG args hW, hC.1.of hG args hW, hni, fun sig hs9 => ?_⟩
    ⟨xPc.blind, hrc H locs hz, fun U hU hWU => ⟨rfl, State.WarmedH.trans hW hWU, by rw [hU]; exact hz.locs (fun _ h => by cases h)⟩⟩ rfl hnp (hl0.1.trans hml) hst0 (lv_room hst) hd ⟨hc, hs⟩
  · have : w = .code y bytes maxL rt := by simpa using hw
    subst this
    exact hC.1.of hG a' (State.WarmedH.trans hW hU)
  · have h2 := hC.2.2.2.2
    rw [hs9] at h2
    exact (Option.some.inj h2).symm
/-- invokevirtual of a private method of the class above -/
theorem V.callP (hB : Bd g B cc nL own ret d mc ms) (hC : CW y bytes maxL rt np) (hl : WD (.methodLink own idx y)) (hsm : WD (.sameMethod y.cls y.cls y.name y.desc)) (hpr : Cond.privateMethod y ∈ lw_tbl) (hin : WD (.instanceMethod y)) (hd : decode cc pc = .ok (.invokevirtual idx, 3)) (hd' : d' < d) (hL : maxL ≤ 300)
    (hM : Ct g y (.code y bytes maxL rt) d' mc' ms' (.ref a :: av) h sz Qr' Qx') (hno : ∀ E h' sz', ¬ Qx' E h' sz') (hrc : RC g B h sz a C) (hnp : av.length = np) (hst : (st.map fun v => v.category).sum ≤ 8) (hc : k + mc' ≤ mc) (hs : n + ms' ≤ ms)
    (kk : ∀ (v : Option Value) (h' : xH) (sz' : Nat), Qr' v h' sz' → V g B (k + mc') (n + ms') Q h' sz' (pc + 3) ls (v.toList ++ st)) (hst0 : st0 = av.reverse ++ .ref a :: st) : V g B k n Q h sz pc ls st0 := by
  refine V.ofRunN (av := .ref a :: av) hB (fun p l e R s m args below meth c H locs A hBe hz hl0 => ?_) kk
  subst hBe
  obtain ⟨hx, hb, hml, hown, hr9, hlk, hG, hW, hR, hfl⟩ := hB
  subst hR
  exact xp_runP (As := av) (rest := st) (n := np) (C := C) ⟨hx, hb, hml, hown, fun w hw => (absurd hw (List.not_mem_nil (a := w)))⟩ (hM.met hno hfl) (hC.callB hG hW hl (xRm_le hd' hL)) (hsm.of hG args hW) (hG.priv hpr hW) (hin.of hG args hW)
    ⟨xPc.blind, hrc H locs hz, fun U hU hWU => ⟨rfl, State.WarmedH.trans hW hWU, by rw [hU]; exact hz.locs (fun _ h => by cases h)⟩⟩ rfl hnp (hl0.1.trans hml) hst0 (lv_room hst) hd ⟨hc, hs⟩
end
/-! reads of the start's objects -/
theorem V.gets (hB : Bd g B cc nL own ret d mc ms) {C fn fd : String} {v : Value} {index : Nat} (hZ : va_Z C fn fd v (xFree g) g.1 g.1.heap) (hlink : WD (.fieldLink own index C fn fd)) (hdg : decode cc pc = .ok (.getstatic index, 3)) (kk : V g B k n Q h sz (pc + 3) ls (v :: st)) : V g B k n Q h sz pc ls st := by
  obtain ⟨p, l, e, R, s, m, args, below, meth, c⟩ := B
  obtain ⟨hx, hb, hml, hown, hr, hlk, hG, hW, hR, hfl⟩ := hB
  intro H locs A hz hl0
  obtain ⟨cf, kf, fi, f, a, cell, h1, h2, h3, h4, h5, h6, h7, h8⟩ := hZ.moved hW.alike
  exact W.gets hx hb hown (hlink.of hG args hW) h1 h2 h3 h4 (hz.old h5) (fun e => by rw [e] at h6; cases h6) h7 rfl hdg (kk H locs A hz hl0)
theorem V.getsN (hB : Bd g B cc nL own ret d mc ms) {C fn fd host : String} {v : Value} {index : Nat} (hZ : va_Z C fn fd v (xFree g) g.1 g.1.heap) (hlink : Cond.fieldLinkNest own index C fn fd host ∈ lw_tbl) (hdg : decode cc pc = .ok (.getstatic index, 3)) (kk : V g B k n Q h sz (pc + 3) ls (v :: st)) : V g B k n Q h sz pc ls st := by
  obtain ⟨p, l, e, R, s, m, args, below, meth, c⟩ := B
  obtain ⟨hx, hb, hml, hown, hr, hlk, hG, hW, hR, hfl⟩ := hB
  intro H locs A hz hl0
  obtain ⟨b, hbw, -⟩ := hG.nd
  obtain ⟨cf, kf, fi, f, a, cell, h1, h2, h3, h4, h5, h6, h7, h8⟩ := hZ.moved hW.alike
  exact va_WgetsN hx hb hown (va_Nw.use rfl (va_Nw.warmF hW (va_Nw.of rfl (hbw _ hlink)))) h1 h2 h3 h4 (hz.old h5) (fun e => by rw [e] at h6; cases h6) h7 rfl hdg (kk H locs A hz hl0)
theorem V.sgetf (hB : Bd g B cc nL own ret d mc ms) {o fn fd : String} {index q : Nat} {v : Value} (hE : va_OF o fn fd v q (xFree g) g.1 g.1.heap) (hlink : WD (.fieldLink own index o fn fd)) (hdg : decode cc pc = .ok (.getfield index, 3)) (kk : V g B k n Q h sz (pc + 3) ls (v :: st)) : V g B k n Q h sz pc ls (.ref q :: st) := by
  obtain ⟨p, l, e, R, s, m, args, below, meth, c⟩ := B
  obtain ⟨hx, hb, hml, hown, hr, hlk, hG, hW, hR, hfl⟩ := hB
  intro H locs A hz hl0
  obtain ⟨cf, k9, fi, f, cell, h1, h2, h3, h4, h5, h6⟩ := hE.moved hW.alike
  exact W.getf hx hb hown (hlink.of hG args hW) h1 h2 (hz.old h3) h4 (v := v) h5 rfl rfl hdg (kk H locs A hz hl0)

theorem V.sti (hB : Bd g B cc nL own ret d mc ms) {t N : Nat} {f : Nat → Value} (hT : va_T .int t N f (xFree g) g.1 g.1.heap) {i : Int32} {v : Value} (hin : vp_in i N) (hv : f i.toNatClampNeg = v) (hdg : decode cc pc = .ok (.iaload, 1)) (kk : V g B k n Q h sz (pc + 1) ls (v :: st)) : V g B k n Q h sz pc ls (.int i :: .ref t :: st) := by
  obtain ⟨p, l, e, R, s, m, args, below, meth, c⟩ := B
  obtain ⟨hx, hb, hml, hown, hr, hlk, hG, hW, hR, hfl⟩ := hB
  intro H locs A hz hl0
  obtain ⟨cell, h1, h2, h3, h4, h5, h6, h7⟩ := hT.moved hW.alike
  have hlt : i.toNatClampNeg < N := Nat.not_le.mp fun q => hin (Or.inr q)
  have hin' : ¬ (i < 0 ∨ cell.slots.size ≤ i.toNatClampNeg) := by
    intro q
    rcases q with q | q
    · exact hin (Or.inl q)
    · omega
  exact W.iald (v := v) hx hb (hz.old h1) h2 h3 hin' (by rw [h6 _ hlt, hv]) rfl rfl hdg (kk H locs A hz hl0)
theorem V.stb (hB : Bd g B cc nL own ret d mc ms) {t N : Nat} {f : Nat → Value} (hT : va_T .byte t N f (xFree g) g.1 g.1.heap) {i : Int32} {v : Value} (hin : vp_in i N) (hv : f i.toNatClampNeg = v) (hdg : decode cc pc = .ok (.baload, 1)) (kk : V g B k n Q h sz (pc + 1) ls (v :: st)) : V g B k n Q h sz pc ls (.int i :: .ref t :: st) := by
  obtain ⟨p, l, e, R, s, m, args, below, meth, c⟩ := B
  obtain ⟨hx, hb, hml, hown, hr, hlk, hG, hW, hR, hfl⟩ := hB
  intro H locs A hz hl0
  obtain ⟨cell, h1, h2, h3, h4, h5, h6, h7⟩ := hT.moved hW.alike
  have hlt : i.toNatClampNeg < N := Nat.not_le.mp fun q => hin (Or.inr q)
  have hin' : ¬ (i < 0 ∨ cell.slots.size ≤ i.toNatClampNeg) := by
    intro q
    rcases q with q | q
    · exact hin (Or.inl q)
    · omega
  exact W.bald (v := v) hx hb (hz.old h1) h2 h3 hin' (by rw [h6 _ hlt, hv]) rfl rfl hdg (kk H locs A hz hl0)
theorem V.stq (hB : Bd g B cc nL own ret d mc ms) {C : String} {t N : Nat} {f : Nat → Value} (hT : va_T (.object C) t N f (xFree g) g.1 g.1.heap) {i : Int32} {v : Value} (hin : vp_in i N) (hv : f i.toNatClampNeg = v) (hdg : decode cc pc = .ok (.aaload, 1)) (kk : V g B k n Q h sz (pc + 1) ls (v :: st)) : V g B k n Q h sz pc ls (.int i :: .ref t :: st) := by
  obtain ⟨p, l, e, R, s, m, args, below, meth, c⟩ := B
  obtain ⟨hx, hb, hml, hown, hr, hlk, hG, hW, hR, hfl⟩ := hB
  intro H locs A hz hl0
  obtain ⟨cell, h1, h2, h3, h4, h5, h6, h7⟩ := hT.moved hW.alike
  have hlt : i.toNatClampNeg < N := Nat.not_le.mp fun q => hin (Or.inr q)
  have hin' : ¬ (i < 0 ∨ cell.slots.size ≤ i.toNatClampNeg) := by
    intro q
    rcases q with q | q
    · exact hin (Or.inl q)
    · omega
  exact W.aald (v := v) (ty := .object C) hx hb (hz.old h1) h2 rfl h3 hin' (by rw [h6 _ hlt, hv]) rfl rfl hdg (kk H locs A hz hl0)
theorem V.stlen (hB : Bd g B cc nL own ret d mc ms) {ty : FieldType} {t N : Nat} {f : Nat → Value} (hT : va_T ty t N f (xFree g) g.1 g.1.heap) {v : Int32} (hv : Int32.ofNat N = v) (hdg : decode cc pc = .ok (.arraylength, 1)) (kk : V g B k n Q h sz (pc + 1) ls (.int v :: st)) : V g B k n Q h sz pc ls (.ref t :: st) := by
  subst hv
  obtain ⟨p, l, e, R, s, m, args, below, meth, c⟩ := B
  obtain ⟨hx, hb, hml, hown, hr, hlk, hG, hW, hR, hfl⟩ := hB
  intro H locs A hz hl0
  obtain ⟨cell, h1, h2, h3, h4, h5, h6, h7⟩ := hT.moved hW.alike
  exact W.alen (n := Int32.ofNat N) hx hb (hz.old h1) h2 h5 rfl rfl hdg (kk H locs A hz hl0)
theorem V.ishr (hB : Bd g B cc nL own ret d mc ms) {x y : Int32} (hd : decode cc pc = .ok (.ishr, 1)) (kk : V g B k n Q h sz (pc + 1) ls (.int (x >>> (y &&& 31)) :: st)) : V g B k n Q h sz pc ls (.int y :: .int x :: st) := by
  obtain ⟨p, l, e, R, s, m, args, below, meth, c⟩ := B
  obtain ⟨hx, hb, hml, hown, hr, hlk, hG, hW, hR, hfl⟩ := hB
  intro H locs A hz hl0
  exact lv_ishr hx hb hd (kk H locs A hz hl0)
theorem V.ishl (hB : Bd g B cc nL own ret d mc ms) {x y : Int32} (hd : decode cc pc = .ok (.ishl, 1)) (kk : V g B k n Q h sz (pc + 1) ls (.int (x <<< (y &&& 31)) :: st)) : V g B k n Q h sz pc ls (.int y :: .int x :: st) := by
  obtain ⟨p, l, e, R, s, m, args, below, meth, c⟩ := B
  obtain ⟨hx, hb, hml, hown, hr, hlk, hG, hW, hR, hfl⟩ := hB
  intro H locs A hz hl0
  exact lv_ishl hx hb hd (kk H locs A hz hl0)
theorem V.dup_x1 (hB : Bd g B cc nL own ret d mc ms) {va vb : Value} (hd : decode cc pc = .ok (.dup_x1, 1)) (hva : va.category = 1) (hvb : vb.category = 1) (kk : V g B k n Q h sz (pc + 1) ls (va :: vb :: va :: st)) : V g B k n Q h sz pc ls (va :: vb :: st) := by
  obtain ⟨p, l, e, R, s, m, args, below, meth, c⟩ := B
  obtain ⟨hx, hb, hml, hown, hr, hlk, hG, hW, hR, hfl⟩ := hB
  intro H locs A hz hl0
  exact lv_dup_x1 hx hb hd hva hvb (kk H locs A hz hl0)
theorem V.i2b (hB : Bd g B cc nL own ret d mc ms) {x : Int32} (hd : decode cc pc = .ok (.i2b, 1)) (kk : V g B k n Q h sz (pc + 1) ls (.int x.toInt8.toInt32 :: st)) : V g B k n Q h sz pc ls (.int x :: st) := by
  obtain ⟨p, l, e, R, s, m, args, below, meth, c⟩ := B
  obtain ⟨hx, hb, hml, hown, hr, hlk, hG, hW, hR, hfl⟩ := hB
  intro H locs A hz hl0
  exact lv_i2b hx hb hd rfl (kk H locs A hz hl0)
end VN
section VNM
variable {g : xG} {B : BT} {k n : Nat} {Q : State → Prop} {m : Mem} {sz pc : Nat} {ls : List (Option Value)} {st : List Value} {cc : ByteArray} {nL : Nat} {own : String} {ret : Option FieldType} {d mc ms : Nat}
variable {y : MethodName} {bytes : ByteArray} {maxL np idx d' mc' ms' a : Nat} {rt : Option FieldType} {av : List Value} {P : OV → Mem → Prop} {PX' : String → Mem → Prop} {st0 : List Value} {C : String}
theorem V.cvr (hB : Bd g B cc nL own ret d mc ms) (hC : CW y bytes maxL rt np) (hl : WD (.methodLink own idx y)) (hin : WD (.instanceMethod y)) (hse : WD (.selects y.cls y y)) (hd : decode cc pc = .ok (.invokevirtual idx, 3)) (hM : CC g y (.code y bytes maxL rt) d' mc' ms' (.ref a :: av) m P PX') (hrc : RC g B (hp g m) sz a y.cls) (hd' : d' < d) (hL : maxL ≤ 300) (hnp : av.length = np) (hst : (st.map fun v => v.category).sum ≤ 8) (hc : k + mc' ≤ mc) (hs : n + ms' ≤ ms)
    (kx : ∀ (E : String) (m' : Mem) (sz' : Nat), PX' E m' → VX g B (k + mc') (n + ms') Q (hp g m') sz' pc ls E)
    (kk : ∀ (v : OV) (m' : Mem) (sz' : Nat), P v m' → V g B (k + mc') (n + ms') Q (hp g m') sz' (pc + 3) ls (v.toList ++ st)) (hst0 : st0 = av.reverse ++ .ref a :: st) : V g B k n Q (hp g m) sz pc ls st0 :=
  V.callVR hB hC hl hin hse hd hd' hL (hM sz) hrc hnp hst hc hs (fun E h' sz' ⟨m', e, hq⟩ => by subst e; exact kx E m' sz' hq) (fun v h' sz' ⟨m', e, hq⟩ => by subst e; exact kk v m' sz' hq) hst0
theorem V.cu (hB : Bd g B cc nL own ret d mc ms) {x : MethodName} (hC : CW y bytes maxL rt np) (hl : WD (.methodLink own idx x)) (hsm : WD (.sameMethod x.cls y.cls y.name y.desc)) (hyx : x.name = y.name ∧ x.desc = y.desc) (hin : WD (.instanceMethod y)) (hse : WD (.selects C x y)) (hd : decode cc pc = .ok (.invokevirtual idx, 3)) (hM : CC g y (.code y bytes maxL rt) d' mc' ms' (.ref a :: av) m P noX) (hrc : RC g B (hp g m) sz a C) (hd' : d' < d) (hL : maxL ≤ 300) (hnp : av.length = np) (hst : (st.map fun v => v.category).sum ≤ 8) (hc : k + mc' ≤ mc) (hs : n + ms' ≤ ms)
    (kk : ∀ (v : OV) (m' : Mem) (sz' : Nat), P v m' → V g B (k + mc') (n + ms') Q (hp g m') sz' (pc + 3) ls (v.toList ++ st)) (hst0 : st0 = av.reverse ++ .ref a :: st) : V g B k n Q (hp g m) sz pc ls st0 :=
  V.callU hB hC hl hsm hyx hin hse hd hd' hL (hM sz) (fun _ _ _ ⟨_, _, h⟩ => h) hrc hnp hst hc hs (fun v h' sz' ⟨m', e, hq⟩ => by subst e; exact kk v m' sz' hq) hst0
theorem V.csu (hB : Bd g B cc nL own ret d mc ms) {ci N : Nat} {T : u_T} (hci : xcl[ci]? = some (C, T, N)) (hC : CW y bytes maxL rt np) (hl : WD (.methodLink own idx y)) (hsm : WD (.sameMethod y.cls y.cls y.name y.desc)) (hsp : WD (.superclass own y.cls)) (hni : y.name ≠ "<init>") (hin : WD (.instanceMethod y)) (hd : decode cc pc = .ok (.invokespecial idx, 3)) (hM : CC g y (.code y bytes maxL rt) d' mc' ms' (.ref a :: av) m P noX) (hrc : RC g B (hp g m) sz a C) (hd' : d' < d) (hL : maxL ≤ 300) (hnp : av.length = np) (hst : (st.map fun v => v.category).sum ≤ 8) (hc : k + mc' ≤ mc) (hs : n + ms' ≤ ms)
    (kk : ∀ (v : OV) (m' : Mem) (sz' : Nat), P v m' → V g B (k + mc') (n + ms') Q (hp g m') sz' (pc + 3) ls (v.toList ++ st)) (hst0 : st0 = av.reverse ++ .ref a :: st) : V g B k n Q (hp g m) sz pc ls st0 :=
  V.callSU hB hci hC hl hsm hsp hni hin hd hd' hL (hM sz) (fun _ _ _ ⟨_, _, h⟩ => h) hrc hnp hst hc hs (fun v h' sz' ⟨m', e, hq⟩ => by subst e; exact kk v m' sz' hq) hst0
theorem V.cp (hB : Bd g B cc nL own ret d mc ms) (hC : CW y bytes maxL rt np) (hl : WD (.methodLink own idx y)) (hsm : WD (.sameMethod y.cls y.cls y.name y.desc)) (hpr : Cond.privateMethod y ∈ lw_tbl) (hin : WD (.instanceMethod y)) (hd : decode cc pc = .ok (.invokevirtual idx, 3)) (hM : CC g y (.code y bytes maxL rt) d' mc' ms' (.ref a :: av) m P noX) (hrc : RC g B (hp g m) sz a C) (hd' : d' < d) (hL : maxL ≤ 300) (hnp : av.length = np) (hst : (st.map fun v => v.category).sum ≤ 8) (hc : k + mc' ≤ mc) (hs : n + ms' ≤ ms)
    (kk : ∀ (v : OV) (m' : Mem) (sz' : Nat), P v m' → V g B (k + mc') (n + ms') Q (hp g m') sz' (pc + 3) ls (v.toList ++ st)) (hst0 : st0 = av.reverse ++ .ref a :: st) : V g B k n Q (hp g m) sz pc ls st0 :=
  V.callP hB hC hl hsm hpr hin hd hd' hL (hM sz) (fun _ _ _ ⟨_, _, h⟩ => h) hrc hnp hst hc hs (fun v h' sz' ⟨m', e, hq⟩ => by subst e; exact kk v m' sz' hq) hst0
end VNM
