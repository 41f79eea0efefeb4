/-! contracts, their making, their ends, their calls -/
def Hr (g : xG) (h : xH) (sz : Nat) (U : State) : Prop := g.1.WarmedH U.vm ∧ RZ g h sz U.heap []
def xFree (g : xG) : Addr → Prop := fun q => g.1.heap.size ≤ q
def xPc (g : xG) (av : List Value) (h : xH) (sz : Nat) : Array Value → State → Prop := fun a U => a = av.toArray ∧ Hr g h sz U
def xQc (g : xG) (Qr : Option Value → xH → Nat → Prop) : Array Value → State → Outcome → State → Prop := fun _ _ oc t => ∃ (v : Option Value) (h' : xH) (sz' : Nat), oc = .returned v ∧ Qr v h' sz' ∧ Hr g h' sz' t
def xXC (g : xG) (Qx : String → xH → Nat → Prop) : String → State → State → Prop := fun E _ t => ∃ (h' : xH) (sz' : Nat), Qx E h' sz' ∧ RZ g h' sz' t.heap []
/-- THE CONTRACT of a method: from these arguments over h it returns as Qr says, or throws as Qx says -/
def Ct (g : xG) (y : MethodName) (w0 : Cond) (d mc ms : Nat) (av : List Value) (h : xH) (sz : Nat) (Qr : Option Value → xH → Nat → Prop) (Qx : String → xH → Nat → Prop) : Prop :=
  ∀ l : Launch, l.flags = flags0 → vx_Met l y [w0] (xRm d mc ms) (xPc g av h sz) (xQc g Qr) (xXC g Qx) mc ms (xFree g)
/-- what a body owes at its end -/
def QE (g : xG) (B : BT) (mc ms : Nat) (Qr : Option Value → xH → Nat → Prop) (Qx : String → xH → Nat → Prop) : State → Prop := match B with
  | (_, _, _, _, s, _, args, below, _, _) => vx_MQ below (xQc g Qr) (xXC g Qx) args s mc ms (xFree g)
/-- the body's table of handlers; whether it is a constructor -/
def Bx (B : BT) (hh : List (Nat × Nat × Nat × Nat)) : Prop := match B with
  | (_, _, _, _, _, _, _, _, _, c) => c.exceptionTable.toList = tableOf hh
def Bi (B : BT) : Prop := match B with
  | (_, _, _, _, _, _, _, _, meth, _) => meth.name = "<init>"
/-- the locals at a method's entry -/
def ls0 (av : List Value) (nL : Nat) : List (Option Value) := av.map some ++ List.replicate (nL - av.length) none
theorem lg_sl_1 : ∀ {av : List Value}, av.all (fun v => v.category == 1) = true → lg_sl av = av.map Slot.val
  | [], _ => rfl
  | v :: r, h => by
    rw [List.all_cons, Bool.and_eq_true] at h
    have h1 : v.category = 1 := by simpa using h.1
    have h2 := lg_sl_1 h.2
    unfold lg_sl at h2 ⊢
    rw [List.flatMap_cons, h2, if_neg (by rw [h1]; decide)]
    rfl
theorem LH.entry {av : List Value} {nL : Nat} (h1 : av.all (fun v => v.category == 1) = true) (h2 : av.length ≤ nL) : LH ((lg_sl av ++ List.replicate (nL - (lg_sl av).length) Slot.unset).toArray) nL (ls0 av nL) := by
  have hlen : (lg_sl av).length = av.length := by rw [lg_sl_1 h1, List.length_map]
  have h := lv_entry av (n := nL) (by rw [hlen]; exact h2)
  refine ⟨h.1, h.2.1, fun i v hv => ?_⟩
  unfold ls0 at hv
  rw [List.getElem?_append] at hv
  split at hv
  · rename_i hi
    rw [List.getElem?_map] at hv
    rw [List.getElem?_toArray, List.getElem?_append_left (by rw [hlen]; simpa using hi), lg_sl_1 h1, List.getElem?_map]
    cases ha : av[i]? with
    | none => rw [ha] at hv; cases hv
    | some w =>
      rw [ha] at hv
      cases hv
      rfl
  · rw [List.getElem?_replicate] at hv
    split at hv <;> cases hv
theorem Hr.blind {g : xG} {h : xH} {sz : Nat} {U : State} {fr : JFrame} {mk : MethodId} {a : Array Value} (hH : Hr g h sz U) : Hr g h sz (U.calling fr mk a) := hH
theorem xPc.blind {g : xG} {av : List Value} {h : xH} {sz : Nat} : FrameBlind (xPc g av h sz) := fun _ _ _ _ hp => ⟨hp.1, Hr.blind hp.2⟩
theorem RZ.locs {g : xG} {h : xH} {sz : Nat} {H : Heap} {l1 l2 : List Loc} (hz : RZ g h sz H l1) (hl : ∀ z ∈ l2, g.1.heap.size ≤ z.base) : RZ g h sz H l2 := ⟨hz.1, hz.2.1, hz.2.2.1, hz.2.2.2.1, hl⟩
theorem vy_ofW {l : Launch} {y : MethodName} {ws ws' : List Cond} {rm : Room} {Pc : Array Value → State → Prop} {Qc : Array Value → State → Outcome → State → Prop} {XC : String → State → State → Prop} {mc ms : Nat} {free : Addr → Prop} {cc : ByteArray} {maxL : Nat} {ret : Option FieldType}
    (hy : plainFor y = true) (hw : ws = Cond.code y cc maxL ret :: ws')
    (body : ∀ p e s m args below meth c s₁, BodyLoose p l y (headSpec ws rm) cc maxL ret e s m args below meth c s₁ → c.maxLocals = maxL → (∀ x ∈ c.exceptionTable.toList, False) → Pc args s →
      W p l e (headSpec ws rm).room s m args below meth c s.heap [] 0 0 (vx_MQ below Qc XC args s mc ms free) (entryFrame m args maxL)) : vx_Met l y ws rm Pc Qc XC mc ms free := by
  refine MetFree.of_bodySF (code := cc) (maxLocals := maxL) (ret := ret) hy ?_ ?_
  · intro args s m h hn
    obtain ⟨meth, c, h1, h2, h3, h4, h5, h6, -, -⟩ := Cond.code_spec hn (atoms_spec (ws := ws) h _ (by rw [hw]; exact List.mem_cons_self))
    exact ⟨meth, c, h1, h2, h3, h4, h5, h6⟩
  · intro p e s m args below meth c s₁ B hml hP _
    have hh0 : s₁.heap = s.heap := by rw [B.state]; rfl
    have ht : ∀ x ∈ c.exceptionTable.toList, False := by
      obtain ⟨meth9, c9, h1, h2, -, -, -, -, h7, -⟩ := Cond.code_spec B.named (atoms_spec (ws := ws) B.pre _ (by rw [hw]; exact List.mem_cons_self))
      cases Option.some.inj (h1.symm.trans B.method)
      cases Option.some.inj (h2.symm.trans (Stand.of_body B).code)
      intro x hx
      rw [Array.isEmpty_iff.mp h7] at hx
      cases hx
    obtain ⟨t, a1, o, b1, b2, b3⟩ := body p e s m args below meth c s₁ B hml ht hP s₁ hh0 (Stand.of_body B)
    exact ⟨t, o, a1, b1, b2, b3⟩
theorem Ct.imp {g : xG} {y : MethodName} {w0 : Cond} {d mc ms : Nat} {av : List Value} {h : xH} {sz : Nat} {Qr Qr' : Option Value → xH → Nat → Prop} {Qx Qx' : String → xH → Nat → Prop} (hc : Ct g y w0 d mc ms av h sz Qr Qx) (h1 : ∀ r h' sz', Qr r h' sz' → Qr' r h' sz') (h2 : ∀ E h' sz', Qx E h' sz' → Qx' E h' sz') : Ct g y w0 d mc ms av h sz Qr' Qx' := by
  intro l hl
  refine (hc l hl).mono (fun _ _ h => h) (fun _ _ _ _ _ h => h) (fun a s o s' _ hq => ?_)
  rcases hq with ⟨⟨v, h', sz', e, hq, hH⟩, hF⟩ | ⟨q, e, E, ce, L, ⟨h', sz', hq, hH⟩, hr⟩
  · exact Or.inl ⟨⟨v, h', sz', e, h1 _ _ _ hq, hH⟩, hF⟩
  · exact Or.inr ⟨q, e, E, ce, L, ⟨h', sz', h2 _ _ _ hq, hH⟩, hr⟩
/-- a contract out of its body -/
theorem Ct.mk {g : xG} (hG : GK g) {y : MethodName} {cc : ByteArray} {nL : Nat} {ret : Option FieldType} {d mc ms : Nat} {av : List Value} {h : xH} {sz : Nat} {Qr : Option Value → xH → Nat → Prop} {Qx : String → xH → Nat → Prop} (own : String) (hown : y.cls = own) (hy : plainFor y = true) (h1 : av.all (fun v => v.category == 1) = true) (h2 : av.length ≤ nL)
    (body : ∀ B : BT, Bd g B cc nL own ret d mc ms → Bx B [] → (y.name = "<init>" → Bi B) → V g B 0 0 (QE g B mc ms Qr Qx) h sz 0 (ls0 av nL) []) : Ct g y (.code y cc nL ret) d mc ms av h sz Qr Qx := by
  subst hown
  intro l hfl
  refine vy_ofW (cc := cc) (maxL := nL) (ret := ret) (ws' := []) hy rfl ?_
  intro p e s m args below meth c s₁ B hml ht hv
  obtain ⟨rfl, hW, hz⟩ := hv
  have hbd : Bd g (p, l, e, (headSpec [.code y cc nL ret] (xRm d mc ms)).room, s, m, av.toArray, below, meth, c) cc nL y.cls ret d mc ms := ⟨B.exec, B.bytes, hml, findClass_of_methodNamed B.named, B.returns, B.notSynchronized, hG, hW, rfl, hfl⟩
  have hk := body _ hbd (by
    show c.exceptionTable.toList = []
    cases hc : c.exceptionTable.toList with
    | nil => rfl
    | cons x r => exact (ht x (by rw [hc]; exact List.mem_cons_self)).elim) (fun hn => (name_of_methodNamed B.named B.method).1.trans hn)
  have := hk s.heap [] ((lg_sl av ++ List.replicate (nL - (lg_sl av).length) Slot.unset).toArray) hz (by rw [hml]; exact LH.entry h1 h2)
  rw [lg_entry_eq]
  exact this
section VE
variable {g : xG} {B : BT} {k n : Nat} {Q : State → Prop} {h : xH} {sz pc : Nat} {ls : List (Option Value)} {st : List Value} {cc : ByteArray} {nL : Nat} {own : String} {ret : Option FieldType} {d mc ms : Nat} {Qr : Option Value → xH → Nat → Prop} {Qx : String → xH → Nat → Prop}
theorem V.zret (hB : Bd g B cc nL own ret d mc ms) {v : Int32} {ty : FieldType} (hd : decode cc pc = .ok (.ireturn, 1)) (hr : ret = some ty) (hn : narrow ty (.int v) = .int v) (hq : Qr (some (.int v)) h sz) : V g B mc ms (QE g B mc ms Qr Qx) h sz pc ls [.int v] := by
  obtain ⟨p, l, e, R, s, m, args, below, meth, c⟩ := B
  obtain ⟨hx, hb, hml, hown, hr9, hlk, hG, hW, hR, hfl⟩ := hB
  intro H locs A hz hl0
  exact vx_ret (W.zret (v := v) hx hb (hr9.trans hr) hn (fun t ht hWt => ⟨_, h, sz, rfl, hq, State.WarmedH.trans hW hWt, by rw [ht]; exact hz.locs (fun _ h => by cases h)⟩) hz.2.2.2.2 hd hlk)
theorem V.iret (hB : Bd g B cc nL own ret d mc ms) {v : Int32} (hd : decode cc pc = .ok (.ireturn, 1)) (hr : ret = some .int) (hq : Qr (some (.int v)) h sz) : V g B mc ms (QE g B mc ms Qr Qx) h sz pc ls [.int v] := V.zret hB hd hr rfl hq
theorem V.vret (hB : Bd g B cc nL own ret d mc ms) (hd : decode cc pc = .ok (.return_, 1)) (hr : ret = none) (hq : Qr none h sz) : V g B mc ms (QE g B mc ms Qr Qx) h sz pc ls [] := by
  obtain ⟨p, l, e, R, s, m, args, below, meth, c⟩ := B
  obtain ⟨hx, hb, hml, hown, hr9, hlk, hG, hW, hR, hfl⟩ := hB
  intro H locs A hz hl0
  exact vx_ret (W.vret hx hb (hr9.trans hr) (fun t ht hWt => ⟨_, h, sz, rfl, hq, State.WarmedH.trans hW hWt, by rw [ht]; exact hz.locs (fun _ h => by cases h)⟩) hz.2.2.2.2 hd hlk)
theorem V.aret (hB : Bd g B cc nL own ret d mc ms) {a : Nat} {rt : FieldType} (hd : decode cc pc = .ok (.areturn, 1)) (hr : ret = some rt) (hrt : (∃ n, rt = .object n) ∨ ∃ t, rt = .array t) (hq : Qr (some (.ref a)) h sz) : V g B mc ms (QE g B mc ms Qr Qx) h sz pc ls [.ref a] := by
  obtain ⟨p, l, e, R, s, m, args, below, meth, c⟩ := B
  obtain ⟨hx, hb, hml, hown, hr9, hlk, hG, hW, hR, hfl⟩ := hB
  intro H locs A hz hl0
  exact vx_ret (W.aret hx hb (hr9.trans hr) hrt (Or.inr ⟨a, rfl⟩) (fun t ht hWt => ⟨_, h, sz, rfl, hq, State.WarmedH.trans hW hWt, by rw [ht]; exact hz.locs (fun _ h => by cases h)⟩) hz.2.2.2.2 hd hlk)
/-- E is thrown here -/
def VX (g : xG) (B : BT) (k n : Nat) (Q : State → Prop) (h : xH) (sz pc : Nat) (ls : List (Option Value)) (E : String) : Prop := match B with
  | (p, l, e, R, s, m, args, below, meth, c) => ∀ (H : Heap) (locs : List Loc) (A : Array Slot) (st : List Value) (ce : Cell) (q : Addr), RZ g h sz H locs → LH A c.maxLocals ls → H[q]? = some ce → ce.vm = .none → s.vm.findClass E = some ce.cls → vx_W p l e R s m args below meth c H locs k n Q (F0 m pc A st) q
/-- not caught here -/
theorem VX.out (hB : Bd g B cc nL own ret d mc ms) (hX : Bx B []) {E : String} (hk : k ≤ mc) (hn : n ≤ ms) (hq : Qx E h sz) : VX g B k n (QE g B mc ms Qr Qx) h sz pc ls E := by
  obtain ⟨p, l, e, R, s, m, args, below, meth, c⟩ := B
  obtain ⟨hx, hb, hml, hown, hr9, hlk, hG, hW, hR, hfl⟩ := hB
  intro H locs A st ce q hz hl0 h1 h2 h3
  exact vx_out (E := E) (by have hX : c.exceptionTable.toList = tableOf [] := hX; intro x hx; rw [hX] at hx; cases hx) hlk h1 h2 h3 (fun t ht hal => ⟨h, sz, hq, by rw [ht]; exact hz.locs (fun _ h => by cases h)⟩) hz.2.2.2.2 hk hn
/-- a call, its answer, or its throw -/
theorem V.ofRun (hB : Bd g B cc nL own ret d mc ms) {av : List Value} {sz0 : Nat} {h0 : xH} {mc' ms' : Nat} {Qr' : Option Value → xH → Nat → Prop} {Qx' : String → xH → Nat → Prop} {st0 : List Value}
    (hr : ∀ p l e R s m args below meth c H locs A, B = (p, l, e, R, s, m, args, below, meth, c) → RZ g h sz H locs → LH A c.maxLocals ls → vx_Run p l e R s m args below meth c H locs k n mc' ms' (F0 m pc A st0) st (xQc g Qr' av.toArray) (xXC g Qx') (xFree g))
    (kx : ∀ (E : String) (h' : xH) (sz' : Nat), Qx' E h' sz' → VX g B (k + mc') (n + ms') Q h' sz' pc ls E)
    (kk : ∀ (v : Option Value) (h' : xH) (sz' : Nat), Qr' v h' sz' → V g B (k + mc') (n + ms') Q h' sz' (pc + 3) ls (v.toList ++ st)) : V g B k n Q h sz pc ls st0 := by
  obtain ⟨p, l, e, R, s, m, args, below, meth, c⟩ := B
  obtain ⟨hx, hb, hml, hown, hr9, hlk, hG, hW, hR, hfl⟩ := hB
  intro H locs A hz hl0
  have hr1 := hr _ _ _ _ _ _ _ _ _ _ H locs A rfl hz hl0
  intro T hT X
  rcases hr1 T hT X with ⟨v, st₀, t, T', L, e0, X', hL, e1, e2, ⟨v', h', sz', hv, hq, hH⟩, st⟩ | ⟨q, st₀, t, T', L, E, ce, e0, X', hL, e1, e2, ⟨h', sz', hq, hH⟩, hce, hcv, hcl, st⟩
  · cases hv
    obtain ⟨t2, a1, b1⟩ := kk v h' sz' hq T'.heap (locs ++ L) A (by rw [e1]; exact hH.2.locs (fun z hm => (List.mem_append.mp hm).elim (hz.2.2.2.2 z) (hL z))) hl0 T' rfl X'
    exact ⟨t2, st t2 a1, b1⟩
  · obtain ⟨t2, a1, b1⟩ := kx E h' sz' hq T'.heap (locs ++ L) A _ ce q (by rw [e1]; exact hH.locs (fun z hm => (List.mem_append.mp hm).elim (hz.2.2.2.2 z) (hL z))) hl0 (by rw [e1]; exact hce) hcv hcl T' rfl X'
    exact ⟨t2, st.trans a1, b1⟩
theorem CW.callB {s : State} {args : Array Value} {R : Room} {y : MethodName} {bytes : ByteArray} {maxL : Nat} {rt : Option FieldType} {np idx : Nat} (hC : CW y bytes maxL rt np) (hG : GK g) (hW : g.1.WarmedH s.vm) (hl : WD (.methodLink own idx y)) {d' mc' ms' : Nat} (hR : 40 * d' + 1 ≤ R.frames ∧ 8 + (maxL + 11) + 400 * d' ≤ R.locals) : CallB R s args own idx y bytes maxL rt [.code y bytes maxL rt] (xRm d' mc' ms') mc' ms' np := by
  refine ⟨rfl, rfl, hR.1, hR.2, fun w hw a' U hU => ?_, List.mem_cons_self, hC.1.of hG args hW, hC.2.1.of hG args hW, ⟨hC.2.2.1, hC.2.2.2.1⟩, fun sig hs => ?_, hl.of hG args hW⟩
  · have : w = .code y bytes maxL rt := by simpa using hw
    subst this
    exact hC.1.of hG a' (State.WarmedH.trans hW hU)
  · have h2 := hC.2.2.2.2
    rw [hs] at h2
    exact (Option.some.inj h2).symm
theorem xRm_le {d' d mc ms maxL : Nat} (hd : d' < d) (hL : maxL ≤ 300) : 40 * d' + 1 ≤ (xRm d mc ms).frames ∧ 8 + (maxL + 11) + 400 * d' ≤ (xRm d mc ms).locals := by
  show 40 * d' + 1 ≤ 40 * d ∧ 8 + (maxL + 11) + 400 * d' ≤ 400 * d
  omega
theorem V.callV (hB : Bd g B cc nL own ret d mc ms) {y : MethodName} {bytes : ByteArray} {maxL np idx d' mc' ms' a : Nat} {rt : Option FieldType} {av : List Value} {Qr' : Option Value → xH → Nat → Prop} {Qx' : String → xH → Nat → Prop}
    (hC : CW y bytes maxL rt np) (hl : WD (.methodLink own idx y)) (hin : WD (.instanceMethod y)) (hse : WD (.selects y.cls y y)) (hd : decode cc pc = .ok (.invokevirtual idx, 3)) (hd' : d' < d) (hL : maxL ≤ 300)
    (hM : Ct g y (.code y bytes maxL rt) d' mc' ms' (.ref a :: av) h sz Qr' Qx') {ci N : Nat} {T : u_T} {fs : List Value} (he : h a = some (.inr (ci, fs))) (hci : xcl[ci]? = some (y.cls, T, N)) (hnp : av.length = np) (hst : (st.map fun v => v.category).sum ≤ 8) (hc : k + mc' ≤ mc) (hs : n + ms' ≤ ms)
    (kx : ∀ (E : String) (h' : xH) (sz' : Nat), Qx' E h' sz' → VX g B (k + mc') (n + ms') Q h' sz' pc ls E)
    (kk : ∀ (v : Option Value) (h' : xH) (sz' : Nat), Qr' v h' sz' → V g B (k + mc') (n + ms') Q h' sz' (pc + 3) ls (v.toList ++ st)) {st0 : List Value} (hst0 : st0 = av.reverse ++ .ref a :: st) : V g B k n Q h sz pc ls st0 := by
  refine V.ofRun (av := .ref a :: av) hB (h0 := h) (sz0 := sz) (fun p l e R s m args below meth c H locs A hBe hz hl0 => ?_) kx kk
  subst hBe
  obtain ⟨hx, hb, hml, hown, hr9, hlk, hG, hW, hR, hfl⟩ := hB
  subst hR
  obtain ⟨r, g1, cell, g2, g3, g4, -⟩ := (hz.2.2.2.1 a _ he).2
  have hr9 : r = (y.cls, T, N) := Option.some.inj (g1.symm.trans hci)
  subst hr9
  refine vx_runV (As := av) (rest := st) (n := np) ⟨hx, hb, hml, hown, fun w hw => (absurd hw (List.not_mem_nil (a := w)))⟩ (hM l hfl) ⟨hC.callB hG hW hl (xRm_le hd' hL), hin.of hG args hW, hse.of hG args hW⟩ ⟨xPc.blind, ⟨cell, g2, by rw [g4]; rfl, by rw [g3]; exact ((hG.kn hW).1 ci _ hci).2.1⟩, fun U hU hWU => ⟨rfl, State.WarmedH.trans hW hWU, by rw [hU]; exact hz.locs (fun _ h => by cases h)⟩⟩ rfl hnp (hl0.1.trans hml) hst0 (lv_room hst) hd ⟨hc, hs⟩
theorem V.callS (hB : Bd g B cc nL own ret d mc ms) {y : MethodName} {bytes : ByteArray} {maxL np idx d' mc' ms' : Nat} {rt : Option FieldType} {av : List Value} {Qr' : Option Value → xH → Nat → Prop} {Qx' : String → xH → Nat → Prop}
    (hC : CW y bytes maxL rt np) (hl : WD (.methodLink own idx y)) (hse : WD (.static y)) (hd : decode cc pc = .ok (.invokestatic idx, 3)) (hd' : d' < d) (hL : maxL ≤ 300)
    (hM : Ct g y (.code y bytes maxL rt) d' mc' ms' av h sz Qr' Qx') (hnp : av.length = np) (hst : (st.map fun v => v.category).sum ≤ 8) (hc : k + mc' ≤ mc) (hs : n + ms' ≤ ms)
    (kx : ∀ (E : String) (h' : xH) (sz' : Nat), Qx' E h' sz' → VX g B (k + mc') (n + ms') Q h' sz' pc ls E)
    (kk : ∀ (v : Option Value) (h' : xH) (sz' : Nat), Qr' v h' sz' → V g B (k + mc') (n + ms') Q h' sz' (pc + 3) ls (v.toList ++ st)) {st0 : List Value} (hst0 : st0 = av.reverse ++ st) : V g B k n Q h sz pc ls st0 := by
  refine V.ofRun (av := av) hB (h0 := h) (sz0 := sz) (fun p l e R s m args below meth c H locs A hBe hz hl0 => ?_) kx kk
  subst hBe
  obtain ⟨hx, hb, hml, hown, hr9, hlk, hG, hW, hR, hfl⟩ := hB
  subst hR
  refine vx_runS (As := av) (rest := st) (n := np) ⟨hx, hb, hml, hown, fun w hw => (absurd hw (List.not_mem_nil (a := w)))⟩ (hM l hfl) ⟨hC.callB hG hW hl (xRm_le hd' hL), hse.of hG args hW⟩ ⟨xPc.blind, fun U hU hWU => ⟨rfl, State.WarmedH.trans hW hWU, by rw [hU]; exact hz.locs (fun _ h => by cases h)⟩⟩ rfl hnp (hl0.1.trans hml) hst0 (lv_room hst) hd ⟨hc, hs⟩
end VE
