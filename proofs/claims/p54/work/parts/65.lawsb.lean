/-! the law's own builder: a picture with the builder at lb g, its bytes, and what else stands there (ex g) -/
def pcq (g : xG) (m : Mem) : xH := fun a => if a = lb g then some (.inr (9, [.ref (ad g m.2.1), .int 0, .int (m.1 360 2), .int (m.1 360 3)])) else if a < g.1.heap.size then none else if a = ad g m.2.1 then some (.inl (g.2.2.1 4, m.2.2, .inl (m.1 361))) else ex g a
theorem hq_SB {g : xG} (m : Mem) : pcq g m (lb g) = some (.inr (9, [.ref (ad g m.2.1), .int 0, .int (m.1 360 2), .int (m.1 360 3)])) := if_pos rfl
theorem hq_sb {g : xG} {m : Mem} (h : ad g m.2.1 ≠ lb g) : pcq g m (ad g m.2.1) = some (.inl (g.2.2.1 4, m.2.2, .inl (m.1 361))) := by
  unfold pcq
  rw [if_neg h, if_neg (by unfold ad; omega), if_pos rfl]
theorem hq_up {g : xG} {m : Mem} {f : Nat} {v : Int32} : ∀ q, q ≠ lb g → pcq g (up m 360 f v) q = pcq g m q := by
  intro q hq9
  unfold pcq
  rw [if_neg hq9, if_neg hq9, up_cell m f v (show (361 : Nat) ≠ 360 by decide)]
  rfl
theorem hq_sbup {g : xG} {m : Mem} {q : Nat} {v : Int32} : ∀ a, a ≠ ad g m.2.1 → pcq g (up m 361 q v) a = pcq g m a := by
  intro a ha
  unfold pcq
  rw [up_cell m q v (show (360 : Nat) ≠ 361 by decide)]
  by_cases h1 : a = lb g
  · rw [if_pos h1, if_pos h1]; rfl
  · rw [if_neg h1, if_neg h1]
    by_cases h2 : a < g.1.heap.size
    · rw [if_pos h2, if_pos h2]
    · rw [if_neg h2, if_neg h2, if_neg ha, if_neg (show ¬ a = ad g (up m 361 q v).2.1 from ha)]

def CQ (g : xG) (y : MethodName) (w0 : Cond) (d mc ms : Nat) (av : List Value) (m : Mem) (P : OV → Mem → Prop) (PX : String → Mem → Prop) : Prop :=
  ∀ sz : Nat, Ct g y w0 d mc ms av (pcq g m) sz (fun r h' _ => ∃ m', h' = pcq g m' ∧ P r m') (fun E h' _ => ∃ m', h' = pcq g m' ∧ PX E m')
def QN (g : xG) (B : BT) (mc ms : Nat) (P : OV → Mem → Prop) (PX : String → Mem → Prop) : State → Prop := QE g B mc ms (fun r h' _ => ∃ m', h' = pcq g m' ∧ P r m') (fun E h' _ => ∃ m', h' = pcq g m' ∧ PX E m')
theorem CQ.mk {g : xG} (hG : GK g) {y : MethodName} {cc : ByteArray} {nL : Nat} {ret : Option FieldType} {d mc ms : Nat} {av : List Value} {m : Mem} {P : OV → Mem → Prop} {PX : String → Mem → Prop} (own : String) (hown : y.cls = own) (hy : plainFor y = true) (h1 : av.all (fun v => v.category == 1) = true) (h2 : av.length ≤ nL)
    (body : ∀ (sz : Nat) (B : BT), Bd g B cc nL own ret d mc ms → Bx B [] → V g B 0 0 (QN g B mc ms P PX) (pcq g m) sz 0 (ls0 av nL) []) : CQ g y (.code y cc nL ret) d mc ms av m P PX :=
  fun sz => Ct.mk hG own hown hy h1 h2 (fun B hB hX _ => body sz B hB hX)
theorem CQ.imp {g : xG} {y : MethodName} {w0 : Cond} {d mc ms : Nat} {av : List Value} {m : Mem} {P P' : OV → Mem → Prop} {PX PX' : String → Mem → Prop} (h : CQ g y w0 d mc ms av m P PX) (hP : ∀ r m', P r m' → P' r m') (hX : ∀ E m', PX E m' → PX' E m') : CQ g y w0 d mc ms av m P' PX' :=
  fun sz => (h sz).imp (fun r _ _ ⟨m', e, hq⟩ => ⟨m', e, hP r m' hq⟩) (fun E _ _ ⟨m', e, hq⟩ => ⟨m', e, hX E m' hq⟩)
def rRq (g : xG) (P : Nat → Mem → Prop) : OV → Mem → Prop := fun r m => r = some (.ref (lb g)) ∧ P 360 m
section VCQ
variable {g : xG} {B : BT} {k n : Nat} {Q : State → Prop} {m : Mem} {sz pc : Nat} {ls : List (Option Value)} {st : List Value} {cc : ByteArray} {nL : Nat} {own : String} {ret : Option FieldType} {d mc ms : Nat} {PX : String → Mem → Prop}
theorem V.retIq (hB : Bd g B cc nL own ret d mc ms) {v : Int32} {ty : FieldType} {P : Int32 → Mem → Prop} (hd : decode cc pc = .ok (.ireturn, 1)) (hr : ret = some ty) (hn : narrow ty (.int v) = .int v) (hk : k ≤ mc) (hs : n ≤ ms) (hq : P v m) : V g B k n (QN g B mc ms (rI P) PX) (pcq g m) sz pc ls [.int v] := V.wid hk hs (V.zret hB hd hr hn ⟨m, rfl, v, rfl, hq⟩)
theorem V.retVq (hB : Bd g B cc nL own ret d mc ms) {P : Mem → Prop} (hd : decode cc pc = .ok (.return_, 1)) (hr : ret = none) (hk : k ≤ mc) (hs : n ≤ ms) (hq : P m) : V g B k n (QN g B mc ms (rV P) PX) (pcq g m) sz pc ls [] := V.wid hk hs (V.vret hB hd hr ⟨m, rfl, rfl, hq⟩)
theorem V.retRq (hB : Bd g B cc nL own ret d mc ms) {rt : FieldType} {P : Nat → Mem → Prop} (hd : decode cc pc = .ok (.areturn, 1)) (hr : ret = some rt) (hrt : (∃ n, rt = .object n) ∨ ∃ t, rt = .array t) (hk : k ≤ mc) (hs : n ≤ ms) (hq9 : P 360 m) : V g B k n (QN g B mc ms (rRq g P) PX) (pcq g m) sz pc ls [.ref (lb g)] := V.wid hk hs (V.aret hB hd hr hrt ⟨m, rfl, rfl, hq9⟩)
theorem V.memq {m2 : Mem} (e : m = m2) (kk : V g B k n Q (pcq g m2) sz pc ls st) : V g B k n Q (pcq g m) sz pc ls st := e ▸ kk
section
variable {y : MethodName} {bytes : ByteArray} {maxL np idx d' mc' ms' : Nat} {rt : Option FieldType} {av : List Value} {PX' : String → Mem → Prop} {st0 : List Value}
theorem V.cvq (hB : Bd g B cc nL own ret d mc ms) {a : Nat} {P : OV → Mem → Prop} (hC : CW y bytes maxL rt np) (hl : WD (.methodLink own idx y)) (hin : WD (.instanceMethod y)) (hse : WD (.selects y.cls y y)) (hd : decode cc pc = .ok (.invokevirtual idx, 3)) (hM : CQ g y (.code y bytes maxL rt) d' mc' ms' (.ref a :: av) m P PX') {ci N : Nat} {C : String} {T : u_T} {ty : Nat → FieldType} {fs : List Value} (he : pcq g m a = some (.inr (ci, fs))) (hF : FK ci C T N ty) (hcl : y.cls = C) (hd' : d' < d) (hL : maxL ≤ 300) (hnp : av.length = np) (hst : (st.map fun v => v.category).sum ≤ 8) (hc : k + mc' ≤ mc) (hs : n + ms' ≤ ms)
    (kx : ∀ (E : String) (m' : Mem) (sz' : Nat), PX' E m' → VX g B (k + mc') (n + ms') Q (pcq g m') sz' pc ls E)
    (kk : ∀ (v : OV) (m' : Mem) (sz' : Nat), P v m' → V g B (k + mc') (n + ms') Q (pcq g m') sz' (pc + 3) ls (v.toList ++ st)) (hst0 : st0 = av.reverse ++ .ref a :: st) : V g B k n Q (pcq g m) sz pc ls st0 := by
  subst hcl
  exact V.callV hB hC hl hin hse hd hd' hL (hM sz) he hF.1 hnp hst hc hs (fun E h' sz' ⟨m', e, hq⟩ => by subst e; exact kx E m' sz' hq) (fun v h' sz' ⟨m', e, hq⟩ => by subst e; exact kk v m' sz' hq) hst0
theorem V.csq (hB : Bd g B cc nL own ret d mc ms) {P : OV → Mem → Prop} (hC : CW y bytes maxL rt np) (hl : WD (.methodLink own idx y)) (hse : WD (.static y)) (hd : decode cc pc = .ok (.invokestatic idx, 3)) (hM : CQ g y (.code y bytes maxL rt) d' mc' ms' av m P PX') (hd' : d' < d) (hL : maxL ≤ 300) (hnp : av.length = np) (hst : (st.map fun v => v.category).sum ≤ 8) (hc : k + mc' ≤ mc) (hs : n + ms' ≤ ms)
    (kx : ∀ (E : String) (m' : Mem) (sz' : Nat), PX' E m' → VX g B (k + mc') (n + ms') Q (pcq g m') sz' pc ls E)
    (kk : ∀ (v : OV) (m' : Mem) (sz' : Nat), P v m' → V g B (k + mc') (n + ms') Q (pcq g m') sz' (pc + 3) ls (v.toList ++ st)) (hst0 : st0 = av.reverse ++ st) : V g B k n Q (pcq g m) sz pc ls st0 :=
  V.callS hB hC hl hse hd hd' hL (hM sz) hnp hst hc hs (fun E h' sz' ⟨m', e, hq⟩ => by subst e; exact kx E m' sz' hq) (fun v h' sz' ⟨m', e, hq⟩ => by subst e; exact kk v m' sz' hq) hst0
end
/-- callees that answer an int, nothing, a cell -/
theorem kIq {P : Int32 → Mem → Prop} {pc' : Nat} (kk : ∀ (v : Int32) (m' : Mem) (sz' : Nat), P v m' → V g B k n Q (pcq g m') sz' pc' ls (.int v :: st)) : ∀ (v : OV) (m' : Mem) (sz' : Nat), rI P v m' → V g B k n Q (pcq g m') sz' pc' ls (v.toList ++ st) := by
  rintro _ m' sz' ⟨v, rfl, hq⟩
  exact kk v m' sz' hq
theorem kVq {P : Mem → Prop} {pc' : Nat} (kk : ∀ (m' : Mem) (sz' : Nat), P m' → V g B k n Q (pcq g m') sz' pc' ls st) : ∀ (v : OV) (m' : Mem) (sz' : Nat), rV P v m' → V g B k n Q (pcq g m') sz' pc' ls (v.toList ++ st) := by
  rintro _ m' sz' ⟨rfl, hq⟩
  exact kk m' sz' hq
theorem kRq {P : Nat → Mem → Prop} {pc' : Nat} (kk : ∀ (a : Nat) (m' : Mem) (sz' : Nat), P a m' → V g B k n Q (pcq g m') sz' pc' ls (.ref (lb g) :: st)) : ∀ (v : OV) (m' : Mem) (sz' : Nat), rRq g P v m' → V g B k n Q (pcq g m') sz' pc' ls (v.toList ++ st) := by
  rintro _ m' sz' ⟨rfl, hq9⟩
  exact kk 360 m' sz' hq9
theorem kNq {pc' : Nat} : ∀ (E : String) (m' : Mem) (sz' : Nat), noX E m' → VX g B k n Q (pcq g m') sz' pc' ls E := fun _ _ _ h => h.elim
end VCQ
section VNQ
variable {g : xG} {B : BT} {k n : Nat} {Q : State → Prop} {m : Mem} {sz pc : Nat} {ls : List (Option Value)} {st : List Value} {cc : ByteArray} {nL : Nat} {own : String} {ret : Option FieldType} {d mc ms : Nat}
variable {y : MethodName} {bytes : ByteArray} {maxL np idx d' mc' ms' a : Nat} {rt : Option FieldType} {av : List Value} {P : OV → Mem → Prop} {PX' : String → Mem → Prop} {st0 : List Value} {C : String}
theorem V.cvrq (hB : Bd g B cc nL own ret d mc ms) (hC : CW y bytes maxL rt np) (hl : WD (.methodLink own idx y)) (hin : WD (.instanceMethod y)) (hse : WD (.selects y.cls y y)) (hd : decode cc pc = .ok (.invokevirtual idx, 3)) (hM : CQ g y (.code y bytes maxL rt) d' mc' ms' (.ref a :: av) m P PX') (hrc : RC g B (pcq g m) sz a y.cls) (hd' : d' < d) (hL : maxL ≤ 300) (hnp : av.length = np) (hst : (st.map fun v => v.category).sum ≤ 8) (hc : k + mc' ≤ mc) (hs : n + ms' ≤ ms)
    (kx : ∀ (E : String) (m' : Mem) (sz' : Nat), PX' E m' → VX g B (k + mc') (n + ms') Q (pcq g m') sz' pc ls E)
    (kk : ∀ (v : OV) (m' : Mem) (sz' : Nat), P v m' → V g B (k + mc') (n + ms') Q (pcq g m') sz' (pc + 3) ls (v.toList ++ st)) (hst0 : st0 = av.reverse ++ .ref a :: st) : V g B k n Q (pcq g m) sz pc ls st0 :=
  V.callVR hB hC hl hin hse hd hd' hL (hM sz) hrc hnp hst hc hs (fun E h' sz' ⟨m', e, hq⟩ => by subst e; exact kx E m' sz' hq) (fun v h' sz' ⟨m', e, hq⟩ => by subst e; exact kk v m' sz' hq) hst0
theorem V.cuq (hB : Bd g B cc nL own ret d mc ms) {x : MethodName} (hC : CW y bytes maxL rt np) (hl : WD (.methodLink own idx x)) (hsm : WD (.sameMethod x.cls y.cls y.name y.desc)) (hyx : x.name = y.name ∧ x.desc = y.desc) (hin : WD (.instanceMethod y)) (hse : WD (.selects C x y)) (hd : decode cc pc = .ok (.invokevirtual idx, 3)) (hM : CQ g y (.code y bytes maxL rt) d' mc' ms' (.ref a :: av) m P noX) (hrc : RC g B (pcq g m) sz a C) (hd' : d' < d) (hL : maxL ≤ 300) (hnp : av.length = np) (hst : (st.map fun v => v.category).sum ≤ 8) (hc : k + mc' ≤ mc) (hs : n + ms' ≤ ms)
    (kk : ∀ (v : OV) (m' : Mem) (sz' : Nat), P v m' → V g B (k + mc') (n + ms') Q (pcq g m') sz' (pc + 3) ls (v.toList ++ st)) (hst0 : st0 = av.reverse ++ .ref a :: st) : V g B k n Q (pcq g m) sz pc ls st0 :=
  V.callU hB hC hl hsm hyx hin hse hd hd' hL (hM sz) (fun _ _ _ ⟨_, _, h⟩ => h) hrc hnp hst hc hs (fun v h' sz' ⟨m', e, hq⟩ => by subst e; exact kk v m' sz' hq) hst0
theorem V.csuq (hB : Bd g B cc nL own ret d mc ms) {ci N : Nat} {T : u_T} (hci : xcl[ci]? = some (C, T, N)) (hC : CW y bytes maxL rt np) (hl : WD (.methodLink own idx y)) (hsm : WD (.sameMethod y.cls y.cls y.name y.desc)) (hsp : WD (.superclass own y.cls)) (hni : y.name ≠ "<init>") (hin : WD (.instanceMethod y)) (hd : decode cc pc = .ok (.invokespecial idx, 3)) (hM : CQ g y (.code y bytes maxL rt) d' mc' ms' (.ref a :: av) m P noX) (hrc : RC g B (pcq g m) sz a C) (hd' : d' < d) (hL : maxL ≤ 300) (hnp : av.length = np) (hst : (st.map fun v => v.category).sum ≤ 8) (hc : k + mc' ≤ mc) (hs : n + ms' ≤ ms)
    (kk : ∀ (v : OV) (m' : Mem) (sz' : Nat), P v m' → V g B (k + mc') (n + ms') Q (pcq g m') sz' (pc + 3) ls (v.toList ++ st)) (hst0 : st0 = av.reverse ++ .ref a :: st) : V g B k n Q (pcq g m) sz pc ls st0 :=
  V.callSU hB hci hC hl hsm hsp hni hin hd hd' hL (hM sz) (fun _ _ _ ⟨_, _, h⟩ => h) hrc hnp hst hc hs (fun v h' sz' ⟨m', e, hq⟩ => by subst e; exact kk v m' sz' hq) hst0
theorem V.cpq (hB : Bd g B cc nL own ret d mc ms) (hC : CW y bytes maxL rt np) (hl : WD (.methodLink own idx y)) (hsm : WD (.sameMethod y.cls y.cls y.name y.desc)) (hpr : Cond.privateMethod y ∈ lw_tbl) (hin : WD (.instanceMethod y)) (hd : decode cc pc = .ok (.invokevirtual idx, 3)) (hM : CQ g y (.code y bytes maxL rt) d' mc' ms' (.ref a :: av) m P noX) (hrc : RC g B (pcq g m) sz a C) (hd' : d' < d) (hL : maxL ≤ 300) (hnp : av.length = np) (hst : (st.map fun v => v.category).sum ≤ 8) (hc : k + mc' ≤ mc) (hs : n + ms' ≤ ms)
    (kk : ∀ (v : OV) (m' : Mem) (sz' : Nat), P v m' → V g B (k + mc') (n + ms') Q (pcq g m') sz' (pc + 3) ls (v.toList ++ st)) (hst0 : st0 = av.reverse ++ .ref a :: st) : V g B k n Q (pcq g m) sz pc ls st0 :=
  V.callP hB hC hl hsm hpr hin hd hd' hL (hM sz) (fun _ _ _ ⟨_, _, h⟩ => h) hrc hnp hst hc hs (fun v h' sz' ⟨m', e, hq⟩ => by subst e; exact kk v m' sz' hq) hst0
end VNQ
set_option maxRecDepth 100000 in
set_option maxHeartbeats 4000000 in
theorem q_J9_max_7cf53 {g : xG} (hG : GK g) {x y : Int32} {m : Mem} : CQ g yJ9_max_7cf53 (.code yJ9_max_7cf53 cJ9_max_7cf53 2 (some .int)) 1 0 0 [.int x, .int y] m (rI (fun v m2 => v = (if x < y then y else x) ∧ m2 = m)) noX := by
  refine CQ.mk hG RJ9 rfl (by decide +kernel) rfl (Nat.le_of_ble_eq_true rfl) (fun sz B hB hX => ?_)
  show V g B 0 0 _ (pcq g m) sz 0 [some (.int x), some (.int y)] []
  refine V.iload_n hB dJ9_max_7cf53_0 rfl ?_
  refine V.iload_n hB dJ9_max_7cf53_1 rfl ?_
  refine V.icmp_lt (tgt := 9) hB dJ9_max_7cf53_2 (by decide) (fun c_2 => ?_) (fun c_2 => ?_)
  · refine V.iload_n hB dJ9_max_7cf53_9 rfl ?_
    refine V.retIq hB dJ9_max_7cf53_10 rfl (rfl) (by omega) (by omega) ?_
    exact ⟨by simp [c_2], rfl⟩
  · refine V.iload_n hB dJ9_max_7cf53_5 rfl ?_
    refine V.goto (tgt := 10) hB dJ9_max_7cf53_6 (by decide) ?_
    refine V.retIq hB dJ9_max_7cf53_10 rfl (rfl) (by omega) (by omega) ?_
    exact ⟨by simp [c_2], rfl⟩

def SQ (g : xG) (m : Mem) (n : Nat) : Prop := m.1 360 3 = nI n ∧ n ≤ m.2.2 ∧ m.2.2 ≤ 200 ∧ ad g m.2.1 ≠ lb g ∧ (∀ j, j < m.2.2 → fits .byte (.int (m.1 361 j)) = true) ∧ ex g (ad g m.2.1) = Option.none
theorem SQ.none {g : xG} {m : Mem} {n : Nat} (h : SQ g m n) : ad g m.2.1 ≠ lb g := h.2.2.2.1
theorem SQ.nx {g : xG} {m : Mem} {n : Nat} (h : SQ g m n) : ex g (ad g m.2.1) = Option.none := h.2.2.2.2.2
theorem SQ.by {g : xG} {m : Mem} {n : Nat} (h : SQ g m n) : ∀ j, j < m.2.2 → fits .byte (.int (m.1 361 j)) = true := h.2.2.2.2.1
section VSBQ
variable {g : xG} {B : BT} {k n0 : Nat} {Q : State → Prop} {h : xH} {m : Mem} {sz pc : Nat} {ls : List (Option Value)} {st : List Value} {cc : ByteArray} {nL : Nat} {own : String} {ret : Option FieldType} {d mc ms : Nat}
theorem V.bastSBq (hB : Bd g B cc nL own ret d mc ms) {i x : Int32} {q : Nat} (hd : decode cc pc = .ok (.bastore, 1)) (hn : ad g m.2.1 ≠ lb g) (hi : ix i q m.2.2) (hx : vp_nar .byte x = x) (kk : V g B k n0 Q (pcq g (up m 361 q x)) sz (pc + 1) ls st) : V g B k n0 Q (pcq g m) sz pc ls (.int x :: .int i :: .ref (ad g m.2.1) :: st) := by
  refine V.bast hB hd (hq_sb hn) hi.2 (h' := pcq g (up m 361 q x)) ?_ hq_sbup kk
  have h2 := hq_sb (g := g) (m := up m 361 q x) hn
  rw [up_row] at h2
  rw [hi.1, hx]
  exact h2
theorem V.p_SB_countq (hB : Bd g B cc nL own ret d mc ms) {idx : Nat} {v : Int32} (hlink : WD (.fieldLink own idx (TJ4 3).1 (TJ4 3).2.1 (TJ4 3).2.2.1)) (hd : decode cc pc = .ok (.putfield idx, 3)) (kk : V g B k n0 Q (pcq g (up m 360 3 v)) sz (pc + 3) ls st) : V g B k n0 Q (pcq g m) sz pc ls (.int v :: .ref (lb g) :: st) := by
  refine V.put hB fk_SB 3 hlink hd (by decide) rfl (hq_SB m) (Nat.le_of_ble_eq_true rfl) rfl rfl (h' := pcq g (up m 360 3 v)) ?_ hq_up kk
  rw [hq_SB (up m 360 3 v)]
  simp [up]
end VSBQ
set_option maxRecDepth 100000 in
set_option maxHeartbeats 1000000 in
theorem q_J8_newLength_cabcc {g : xG} (hG : GK g) {a b c : Nat} (ha : a ≤ 1000) (hb : b ≤ 1000) (hc : c ≤ 1000) (h0 : 0 < c) {m : Mem} : CQ g yJ8_newLength_cabcc (.code yJ8_newLength_cabcc cJ8_newLength_cabcc 4 (some .int)) 2 0 0 [.int (nI a), .int (nI b), .int (nI c)] m (rI (fun v m2 => v = nI (a + max b c) ∧ m2 = m)) noX := by
  refine CQ.mk hG RJ8 rfl (by decide +kernel) rfl (Nat.le_of_ble_eq_true rfl) (fun sz B hB hX => ?_)
  show V g B 0 0 _ (pcq g m) sz 0 [some (.int (nI a)), some (.int (nI b)), some (.int (nI c)), none] []
  refine V.iload_n (pc := 0) hB dJ8_newLength_cabcc_0 rfl ?_
  refine V.iload_n (pc := 1) hB dJ8_newLength_cabcc_1 rfl ?_
  refine V.iload_n (pc := 2) hB dJ8_newLength_cabcc_2 rfl ?_
  refine V.csq (pc := 3) hB cw_J9_max_7cf53 wm_J8_194 wst_J9_max_7cf53 dJ8_newLength_cabcc_3 (q_J9_max_7cf53 hG) (by omega) (by decide) rfl (by exact Nat.le_of_ble_eq_true rfl) (by omega) (by omega) kNq (kIq (fun v_3 m_3 sz h_3 => ?_)) rfl
  obtain ⟨rfl, hm_3⟩ := h_3
  obtain rfl := hm_3.symm
  rw [maxN (by omega) (by omega)]
  refine V.iadd (pc := 6) hB dJ8_newLength_cabcc_6 ?_
  rw [nI_add]
  refine V.istore_n (pc := 7) hB dJ8_newLength_cabcc_7 (by decide) rfl ?_
  refine V.iconst (pc := 8) (v := 0) hB dJ8_newLength_cabcc_8 rfl ?_
  refine V.iload_n (pc := 9) hB dJ8_newLength_cabcc_9 rfl ?_
  refine V.icmp_ge (pc := 10) (tgt := 21) hB dJ8_newLength_cabcc_10 (by decide) (fun c_10 => ?_) (fun c_10 => ?_)
  · exact absurd ((nI_leI (b := 0) (by omega) (by decide)).mp c_10) (by omega)
  · refine V.iload_n (pc := 13) hB dJ8_newLength_cabcc_13 rfl ?_
    refine V.ldcI (pc := 14) (v := 2147483639) hB wk_J8_200 dJ8_newLength_cabcc_14 ?_
    refine V.icmp_gt (pc := 16) (tgt := 21) hB dJ8_newLength_cabcc_16 (by decide) (fun c_16 => ?_) (fun c_16 => ?_)
    · exact absurd c_16 (nI_nlt (a := 2147483639) (b := a + max b c) (by omega) (by decide))
    · refine V.iload_n (pc := 19) hB dJ8_newLength_cabcc_19 rfl ?_
      refine V.retIq (pc := 20) hB dJ8_newLength_cabcc_20 rfl (rfl) (by omega) (by omega) ?_
      exact ⟨rfl, rfl⟩

set_option maxRecDepth 100000 in
set_option maxHeartbeats 1000000 in
theorem q_J5_newCapacity_0f7a4 {g : xG} (hG : GK g) {m : Mem} {n : Nat} (hs : SQ g m n) {q : Nat} (hq : m.2.2 < q) (hq9 : q ≤ 90) : CQ g yJ5_newCapacity_0f7a4 (.code yJ5_newCapacity_0f7a4 cJ5_newCapacity_0f7a4 6 (some .int)) 3 0 0 [.ref (lb g), .int (nI q)] m (rI (fun v m2 => v = nI (m.2.2 + max (q - m.2.2) (m.2.2 + 2)) ∧ m2 = m)) noX := by
  have h2 := hs.2.2.1
  refine CQ.mk hG RJ5 rfl (by decide +kernel) rfl (Nat.le_of_ble_eq_true rfl) (fun sz B hB hX => ?_)
  show V g B 0 0 _ (pcq g m) sz 0 [some (.ref (lb g)), some (.int (nI q)), none, none, none, none] []
  refine V.aload_n (pc := 0) hB dJ5_newCapacity_0f7a4_0 rfl ?_
  refine V.get (pc := 1) hB fk_SB 0 wf_J5_15 dJ5_newCapacity_0f7a4_1 (by decide) (hq_SB _) rfl ?_
  refine V.alen (pc := 4) (t := 4) (v := nI (m).2.2) hB rfl dJ5_newCapacity_0f7a4_4 (hq_sb (SQ.none hs)) rfl ?_
  refine V.istore_n (pc := 5) hB dJ5_newCapacity_0f7a4_5 (by decide) rfl ?_
  refine V.iload_n (pc := 6) hB dJ5_newCapacity_0f7a4_6 rfl ?_
  refine V.aload_n (pc := 7) hB dJ5_newCapacity_0f7a4_7 rfl ?_
  refine V.get (pc := 8) hB fk_SB 1 wf_J5_22 dJ5_newCapacity_0f7a4_8 (by decide) (hq_SB _) rfl ?_
  refine V.ishl (pc := 11) hB dJ5_newCapacity_0f7a4_11 ?_
  rw [sb_shl0]
  refine V.istore_n (pc := 12) hB dJ5_newCapacity_0f7a4_12 (by decide) rfl ?_
  refine V.iload_n (pc := 13) hB dJ5_newCapacity_0f7a4_13 rfl ?_
  refine V.iload_n (pc := 14) hB dJ5_newCapacity_0f7a4_14 rfl ?_
  refine V.isub (pc := 15) hB dJ5_newCapacity_0f7a4_15 ?_
  rw [nI_subN (by omega)]
  refine V.istore (pc := 16) hB dJ5_newCapacity_0f7a4_16 (by decide) rfl ?_
  refine V.iload_n (pc := 18) hB dJ5_newCapacity_0f7a4_18 rfl ?_
  refine V.iload (pc := 19) hB dJ5_newCapacity_0f7a4_19 rfl ?_
  refine V.iload_n (pc := 21) hB dJ5_newCapacity_0f7a4_21 rfl ?_
  refine V.iconst (pc := 22) (v := 2) hB dJ5_newCapacity_0f7a4_22 rfl ?_
  refine V.aload_n (pc := 23) hB dJ5_newCapacity_0f7a4_23 rfl ?_
  refine V.get (pc := 24) hB fk_SB 1 wf_J5_22 dJ5_newCapacity_0f7a4_24 (by decide) (hq_SB _) rfl ?_
  refine V.ishl (pc := 27) hB dJ5_newCapacity_0f7a4_27 ?_
  rw [sb_shl0]
  refine V.iadd (pc := 28) hB dJ5_newCapacity_0f7a4_28 ?_
  rw [show nI m.2.2 + 2 = nI (m.2.2 + 2) from nI_add _ 2]
  refine V.csq (pc := 29) hB cw_J8_newLength_cabcc wm_J5_114 wst_J8_newLength_cabcc dJ5_newCapacity_0f7a4_29 (q_J8_newLength_cabcc hG (by omega) (by omega) (by omega) (by omega)) (by omega) (by decide) rfl (by exact Nat.le_of_ble_eq_true rfl) (by omega) (by omega) kNq (kIq (fun v_29 m_29 sz h_29 => ?_)) rfl
  obtain ⟨rfl, hm_29⟩ := h_29
  obtain rfl := hm_29.symm
  refine V.istore (pc := 32) hB dJ5_newCapacity_0f7a4_32 (by decide) rfl ?_
  refine V.iload (pc := 34) hB dJ5_newCapacity_0f7a4_34 rfl ?_
  refine V.ldcI (pc := 36) (v := 2147483647) hB wk_J5_39 dJ5_newCapacity_0f7a4_36 ?_
  refine V.icmp_ne (pc := 38) (tgt := 51) hB dJ5_newCapacity_0f7a4_38 (by decide) (fun c_38 => ?_) (fun c_38 => ?_)
  · refine V.iload (pc := 51) hB dJ5_newCapacity_0f7a4_51 rfl ?_
    refine V.aload_n (pc := 53) hB dJ5_newCapacity_0f7a4_53 rfl ?_
    refine V.get (pc := 54) hB fk_SB 1 wf_J5_22 dJ5_newCapacity_0f7a4_54 (by decide) (hq_SB _) rfl ?_
    refine V.ishr (pc := 57) hB dJ5_newCapacity_0f7a4_57 ?_
    rw [sb_shr0]
    refine V.retIq (pc := 58) hB dJ5_newCapacity_0f7a4_58 rfl (rfl) (by omega) (by omega) ?_
    exact ⟨rfl, rfl⟩
  · exact absurd ((nI_eq (b := 2147483647) (by omega) (by decide)).mp c_38) (by omega)

/-- Arrays.copyOf: a longer row of bytes -/
theorem q_copyOf {g : xG} (hG : GK g) {m : Mem} {n : Nat} (hs : SQ g m n) {c : Nat} (hc : m.2.2 < c) (hc2 : c ≤ 200) {sz : Nat} : Ct g yJ7_copyOf_9075b (.code yJ7_copyOf_9075b cJ7_copyOf_9075b 3 (some (.array .byte))) 2 1 c [.ref (ad g m.2.1), .int (nI c)] (pcq g m) sz (fun r h' sz' => r = some (.ref sz) ∧ sz' = sz + 1 ∧ h' = hx (pcq g m) sz (.inl (g.2.2.1 4, c, .inl (va_cpy (m.1 361) (fun _ => 0) 0 0 m.2.2)))) (fun _ _ _ => False) := by
  have h2 := hs.2.2.1
  refine Ct.mk hG RJ7 rfl (by decide +kernel) rfl (Nat.le_of_ble_eq_true rfl) (fun B hB hX _ => ?_)
  show V g B 0 0 _ (pcq g m) sz 0 [some (.ref (ad g m.2.1)), some (.int (nI c)), none] []
  refine V.bound hB (hq_sb (SQ.none hs)) (fun hlt hle => ?_)
  have hne : ad g m.2.1 ≠ sz := by omega
  refine V.iload_n (pc := 0) hB dJ7_copyOf_9075b_0 rfl ?_
  refine V.aload_n (pc := 1) hB dJ7_copyOf_9075b_1 rfl ?_
  refine V.alen (pc := 2) (t := 4) (v := nI m.2.2) hB rfl dJ7_copyOf_9075b_2 (hq_sb (SQ.none hs)) rfl ?_
  refine V.icmp_ne (pc := 3) (tgt := 14) hB dJ7_copyOf_9075b_3 (by decide) (fun c_3 => ?_) (fun c_3 => absurd ((nI_eq (by omega) (by omega)).mp c_3) (by omega))
  refine V.iload_n (pc := 14) hB dJ7_copyOf_9075b_14 rfl ?_
  refine V.newarr (pc := 15) hB 4 (atype := .byte) (N' := c) (a0 := (c, .inl (fun _ => 0))) war_byte rfl rfl (fun cA => rfl) (nI_pos (by omega)) (nI_clamp (by omega)) (by show c * 1 ≤ 536870912; omega) (by omega) (by omega) dJ7_copyOf_9075b_15 ?_
  refine V.astore_n (pc := 17) hB dJ7_copyOf_9075b_17 (by decide) rfl ?_
  refine V.aload_n (pc := 18) hB dJ7_copyOf_9075b_18 rfl ?_
  refine V.iconst (pc := 19) (v := 0) hB dJ7_copyOf_9075b_19 rfl ?_
  refine V.aload_n (pc := 20) hB dJ7_copyOf_9075b_20 rfl ?_
  refine V.iconst (pc := 21) (v := 0) hB dJ7_copyOf_9075b_21 rfl ?_
  refine V.aload_n (pc := 22) hB dJ7_copyOf_9075b_22 rfl ?_
  have he0 : hx (pcq g m) sz (.inl (g.2.2.1 4, c, .inl (fun _ => 0))) (ad g m.2.1) = some (.inl (g.2.2.1 4, m.2.2, .inl (m.1 361))) := (hx_ne _ _ hne).trans (hq_sb (SQ.none hs))
  refine V.alen (pc := 23) (t := 4) (v := nI m.2.2) hB rfl dJ7_copyOf_9075b_23 he0 rfl ?_
  refine V.iload_n (pc := 24) hB dJ7_copyOf_9075b_24 rfl ?_
  refine V.callS (pc := 25) hB cw_J9_min_7cf53 wm_J7_304 wst_J9_min_7cf53 dJ7_copyOf_9075b_25 (by decide) (by decide) (t_min hG) rfl (by exact Nat.le_of_ble_eq_true rfl) (by omega) (by omega) (fun _ _ _ hf => hf.elim) (fun v h' sz' hq => ?_) rfl
  obtain ⟨rfl, rfl, rfl⟩ := hq
  rw [minN (by omega) (by omega), Nat.min_eq_left (by omega)]
  refine V.acopy (pc := 28) (t := 4) (ty := .byte) hB wm_J7_150 rfl rfl dJ7_copyOf_9075b_28 he0 (hx_at _ _ _) (by decide) (by decide) (nI_pos (by omega)) (by rw [nI_clamp (by omega)]; exact Nat.le_of_eq (Nat.zero_add _)) (by rw [nI_clamp (by omega), show (0 : Int32).toNatClampNeg = 0 from rfl]; omega) (fun i hi => ?_) (by decide) (by exact Nat.le_of_ble_eq_true rfl) (h' := hx (pcq g m) sz (.inl (g.2.2.1 4, c, .inl (va_cpy (m.1 361) (fun _ => 0) 0 0 m.2.2)))) ?_ (fun q hq => (hx_ne _ _ hq).trans (hx_ne _ _ hq).symm) ?_
  · rw [nI_clamp (by omega)] at hi
    have := hs.by i hi
    rwa [show (0 : Int32).toNatClampNeg + i = i from Nat.zero_add i]
  · rw [nI_clamp (by omega)]
    exact hx_at _ _ _
  refine V.aload_n (pc := 31) hB dJ7_copyOf_9075b_31 rfl ?_
  exact V.wid (by omega) (by omega) (V.aret (pc := 32) hB dJ7_copyOf_9075b_32 rfl (Or.inr ⟨_, rfl⟩) ⟨rfl, rfl, rfl⟩)
def szOKq (g : xG) (sz : Nat) : Prop := g.1.heap.size ≤ sz ∧ lb g < sz
theorem sb_neq {g : xG} {sz : Nat} (h : szOKq g sz) : lb g ≠ sz := by unfold szOKq at h; omega
theorem gr_SWq {g : xG} {m : Mem} {n sz c : Nat} (hs : SQ g m n) (hsz : szOKq g sz) (hxz : ex g sz = none) (hcm : m.2.2 < c) (hcb : c ≤ 200) : SQ g (grM g m sz c) n := by
  unfold szOKq at hsz
  have e : ad g (sz - g.1.heap.size) = sz := by unfold ad; omega
  refine ⟨hs.1, by show n ≤ c; have := hs.2.1; omega, hcb, ?_, fun j hj => ?_, ?_⟩
  · show ad g (sz - g.1.heap.size) ≠ lb g
    rw [e]; omega
  · show fits .byte (.int (va_cpy (m.1 361) (fun _ => 0) 0 0 m.2.2 j)) = true
    by_cases hjm : j < m.2.2
    · rw [sb_cpy0 hjm]; exact hs.by j hjm
    · rw [pk_cpy_out (by omega)]; rfl
  · show ex g (ad g (sz - g.1.heap.size)) = none
    rw [e]; exact hxz
theorem gr_subq {g : xG} {m : Mem} {n sz c : Nat} (hs : SQ g m n) (hsz : szOKq g sz) : ∀ (a : Nat) (e : va_E), pcq g (grM g m sz c) a = some e → hx (hx (pcq g m) sz (.inl (g.2.2.1 4, c, .inl (va_cpy (m.1 361) (fun _ => 0) 0 0 m.2.2)))) (lb g) (.inr (9, [.ref sz, .int 0, .int (m.1 360 2), .int (m.1 360 3)])) a = some e := by
  unfold szOKq at hsz
  have es : ad g (grM g m sz c).2.1 = sz := by show ad g (sz - g.1.heap.size) = sz; unfold ad; omega
  intro a e hae
  by_cases h1 : a = lb g
  · subst h1
    rw [hq_SB, es] at hae
    rw [hx_at, ← hae]
    rfl
  · rw [hx_ne _ _ h1]
    by_cases h2 : a = sz
    · subst h2
      rw [hx_at]
      have h3 := hq_sb (g := g) (m := grM g m a c) (by rw [es]; exact h1)
      rw [es] at h3
      rw [h3] at hae
      rw [← hae]
      rfl
    · rw [hx_ne _ _ h2]
      unfold pcq at hae ⊢
      rw [if_neg h1] at hae ⊢
      by_cases h3 : a < g.1.heap.size
      · rw [if_pos h3] at hae; cases hae
      · rw [if_neg h3] at hae ⊢
        rw [if_neg (by rw [es]; exact h2)] at hae
        by_cases h4 : a = ad g m.2.1
        · rw [h4, hs.nx] at hae; cases hae
        · rw [if_neg h4]; exact hae
section VGRQ
variable {g : xG} {B : BT} {k n0 : Nat} {Q : State → Prop} {m : Mem} {sz pc : Nat} {ls : List (Option Value)} {st : List Value} {cc : ByteArray} {nL : Nat} {own : String} {ret : Option FieldType} {d mc ms : Nat}
theorem V.grBq (hB : Bd g B cc nL own ret d mc ms) {n : Nat} (hs : SQ g m n) (kk : szOKq g sz → ex g sz = none → V g B k n0 Q (pcq g m) sz pc ls st) : V g B k n0 Q (pcq g m) sz pc ls st := by
  refine V.bound hB (hq_SB m) (fun hbd hbase => ?_)
  refine V.bound hB (hq_sb hs.none) (fun hlt _ => ?_)
  cases hx : ex g sz with
  | none => exact kk ⟨hbase, hbd⟩ hx
  | some e =>
    refine V.bound hB (a := sz) (e := e) ?_ (fun z _ => absurd z (Nat.lt_irrefl _))
    unfold pcq
    rw [if_neg (by omega), if_neg (by omega), if_neg (by omega)]
    exact hx
end VGRQ
set_option maxRecDepth 100000 in
set_option maxHeartbeats 1000000 in
theorem q_J5_ensureCapacityInternal_d00df {g : xG} (hG : GK g) {m : Mem} {n : Nat} (hs : SQ g m n) {q : Nat} (hq9 : q ≤ 90) : CQ g yJ5_ensureCapacityInternal_d00df (.code yJ5_ensureCapacityInternal_d00df cJ5_ensureCapacityInternal_d00df 3 none) 4 1 200 [.ref (lb g), .int (nI q)] m (rV (fun m2 => SQ g m2 n ∧ q ≤ m2.2.2 ∧ SF m m2 m.2.2)) noX := by
  have h2 := hs.2.2.1
  refine CQ.mk hG RJ5 rfl (by decide +kernel) rfl (Nat.le_of_ble_eq_true rfl) (fun sz B hB hX => ?_)
  show V g B 0 0 _ (pcq g m) sz 0 [some (.ref (lb g)), some (.int (nI q)), none] []
  refine V.aload_n (pc := 0) hB dJ5_ensureCapacityInternal_d00df_0 rfl ?_
  refine V.get (pc := 1) hB fk_SB 0 wf_J5_15 dJ5_ensureCapacityInternal_d00df_1 (by decide) (hq_SB _) rfl ?_
  refine V.alen (pc := 4) (t := 4) (v := nI (m).2.2) hB rfl dJ5_ensureCapacityInternal_d00df_4 (hq_sb (SQ.none hs)) rfl ?_
  refine V.aload_n (pc := 5) hB dJ5_ensureCapacityInternal_d00df_5 rfl ?_
  refine V.get (pc := 6) hB fk_SB 1 wf_J5_22 dJ5_ensureCapacityInternal_d00df_6 (by decide) (hq_SB _) rfl ?_
  refine V.ishr (pc := 9) hB dJ5_ensureCapacityInternal_d00df_9 ?_
  rw [sb_shr0]
  refine V.istore_n (pc := 10) hB dJ5_ensureCapacityInternal_d00df_10 (by decide) rfl ?_
  refine V.iload_n (pc := 11) hB dJ5_ensureCapacityInternal_d00df_11 rfl ?_
  refine V.iload_n (pc := 12) hB dJ5_ensureCapacityInternal_d00df_12 rfl ?_
  refine V.isub (pc := 13) hB dJ5_ensureCapacityInternal_d00df_13 ?_
  have hdec : nI q - nI m.2.2 ≤ 0 ↔ q ≤ m.2.2 := by rw [Int32.le_iff_toInt_le, pk_sub_toInt (by omega) (by omega), Int32.toInt_zero]; omega
  refine V.if_le (pc := 14) (tgt := 38) hB dJ5_ensureCapacityInternal_d00df_14 (by decide) (fun c_14 => ?_) (fun c_14 => ?_)
  · have hle := hdec.mp c_14
    refine V.retVq (pc := 38) hB dJ5_ensureCapacityInternal_d00df_38 rfl (by omega) (by omega) ?_
    exact ⟨hs, hle, SF.refl _ _⟩
  · have hgt : m.2.2 < q := Nat.not_le.mp (fun z => c_14 (hdec.mpr z))
    refine V.aload_n (pc := 17) hB dJ5_ensureCapacityInternal_d00df_17 rfl ?_
    refine V.aload_n (pc := 18) hB dJ5_ensureCapacityInternal_d00df_18 rfl ?_
    refine V.get (pc := 19) hB fk_SB 0 wf_J5_15 dJ5_ensureCapacityInternal_d00df_19 (by decide) (hq_SB _) rfl ?_
    refine V.aload_n (pc := 22) hB dJ5_ensureCapacityInternal_d00df_22 rfl ?_
    refine V.iload_n (pc := 23) hB dJ5_ensureCapacityInternal_d00df_23 rfl ?_
    refine V.cpq (pc := 24) (C := RJ4) hB cw_J5_newCapacity_0f7a4 wm_J5_104 wsm_J5_newCapacity_0f7a4 wpr_J5_newCapacity_0f7a4 wi_J5_newCapacity_0f7a4 dJ5_ensureCapacityInternal_d00df_24 (q_J5_newCapacity_0f7a4 hG hs hgt hq9) (RC.hp hB (hq_SB _) rfl) (by omega) (by decide) rfl (by exact Nat.le_of_ble_eq_true rfl) (by omega) (by omega) (kIq (fun v_24 m_24 sz h_24 => ?_)) rfl
    obtain ⟨rfl, hm_24⟩ := h_24
    obtain rfl := hm_24.symm
    refine V.aload_n (pc := 27) hB dJ5_ensureCapacityInternal_d00df_27 rfl ?_
    refine V.get (pc := 28) hB fk_SB 1 wf_J5_22 dJ5_ensureCapacityInternal_d00df_28 (by decide) (hq_SB _) rfl ?_
    refine V.ishl (pc := 31) hB dJ5_ensureCapacityInternal_d00df_31 ?_
    rw [sb_shl0]
    have hcb : m.2.2 + max (q - m.2.2) (m.2.2 + 2) ≤ 200 := by omega
    obtain ⟨c, hc⟩ : ∃ c, c = m.2.2 + max (q - m.2.2) (m.2.2 + 2) := ⟨_, rfl⟩
    rw [← hc] at hcb ⊢
    have hcm : m.2.2 < c := by omega
    have hcq : q ≤ c := by omega
    refine V.grBq hB hs (fun hsz hxz => ?_)
    refine V.callS (pc := 32) hB cw_J7_copyOf_9075b wm_J5_108 wst_J7_copyOf_9075b dJ5_ensureCapacityInternal_d00df_32 (by decide) (by decide) (q_copyOf hG hs hcm hcb) rfl (by exact Nat.le_of_ble_eq_true rfl) (by omega) (by omega) (fun _ _ _ hf => hf.elim) (fun v h' sz' hq => ?_) rfl
    obtain ⟨rfl, rfl, rfl⟩ := hq
    refine V.put (pc := 35) hB fk_SB 0 wf_J5_15 dJ5_ensureCapacityInternal_d00df_35 (by decide) rfl ((hx_ne _ _ (sb_neq hsz)).trans (hq_SB m)) (Nat.le_of_ble_eq_true rfl) rfl rfl (h' := hx (hx (pcq g m) sz (.inl (g.2.2.1 4, c, .inl (va_cpy (m.1 361) (fun _ => 0) 0 0 m.2.2)))) (lb g) (.inr (9, [.ref sz, .int 0, .int (m.1 360 2), .int (m.1 360 3)]))) (hx_at _ _ _) (fun q hq => hx_ne _ _ hq) ?_
    refine V.sub (h' := pcq g (grM g m sz c)) (gr_subq hs hsz) (fun _ _ h => h) ?_
    have hfin : SQ g (grM g m sz c) n ∧ q ≤ (grM g m sz c).2.2 ∧ SF m (grM g m sz c) m.2.2 := ⟨gr_SWq hs hsz hxz hcm hcb, hcq, gr_SF⟩
    exact V.retVq (pc := 38) hB dJ5_ensureCapacityInternal_d00df_38 rfl (by omega) (by omega) hfin

set_option maxRecDepth 100000 in
set_option maxHeartbeats 1000000 in
theorem q_J5_isLatin1_aae02 {g : xG} (hG : GK g) {z : xE} (hE : GE g z) {m : Mem} : CQ g yJ5_isLatin1_aae02 (.code yJ5_isLatin1_aae02 cJ5_isLatin1_aae02 1 (some .boolean)) 1 0 0 [.ref (lb g)] m (rI (fun v m2 => v = 1 ∧ m2 = m)) noX := by
  refine CQ.mk hG RJ5 rfl (by decide +kernel) rfl (Nat.le_of_ble_eq_true rfl) (fun sz B hB hX => ?_)
  show V g B 0 0 _ (pcq g m) sz 0 [some (.ref (lb g))] []
  refine V.gets (pc := 0) hB (hE.cs) wf_J5_18 dJ5_isLatin1_aae02_0 ?_
  refine V.if_eq (pc := 3) (tgt := 17) hB dJ5_isLatin1_aae02_3 (by decide) (fun c_3 => ?_) (fun c_3 => ?_)
  · exact absurd c_3 (by decide)
  · refine V.aload_n (pc := 6) hB dJ5_isLatin1_aae02_6 rfl ?_
    refine V.get (pc := 7) hB fk_SB 1 wf_J5_22 dJ5_isLatin1_aae02_7 (by decide) (hq_SB _) rfl ?_
    refine V.if_ne (pc := 10) (tgt := 17) hB dJ5_isLatin1_aae02_10 (by decide) (fun c_10 => ?_) (fun c_10 => ?_)
    · exact absurd rfl c_10
    · refine V.iconst (pc := 13) (v := 1) hB dJ5_isLatin1_aae02_13 rfl ?_
      refine V.goto (pc := 14) (tgt := 18) hB dJ5_isLatin1_aae02_14 (by decide) ?_
      refine V.retIq (pc := 18) hB dJ5_isLatin1_aae02_18 rfl (rfl) (by omega) (by omega) ?_
      exact ⟨rfl, rfl⟩

/-- a byte put among the builder's -/
theorem SQ.put {g : xG} {m : Mem} {n q c : Nat} (hs : SQ g m n) (_h : q < m.2.2) (hc : c < 128) : SQ g (up m 361 q (nI c)) n := by
  refine ⟨?_, hs.2.1, hs.2.2.1, hs.2.2.2.1, fun j hj => ?_, hs.nx⟩
  · rw [up_cell _ _ _ (by decide)]; exact hs.1
  · by_cases e : j = q
    · subst e; rw [up_same]; exact fits_b c hc
    · rw [up_slot _ _ _ e]; exact hs.by j hj

set_option maxRecDepth 100000 in
set_option maxHeartbeats 1000000 in
theorem q_J6_stringSize_0f7a4 {g : xG} (hG : GK g) {a : Nat} (ha : a ≤ 99) {v : Int32} (hv : n99 a v) {m : Mem} : CQ g yJ6_stringSize_0f7a4 (.code yJ6_stringSize_0f7a4 cJ6_stringSize_0f7a4 4 (some .int)) 2 0 0 [.int v] m (rI (fun r m2 => r = nI (txtI v).length ∧ m2 = m)) noX := by
  refine CQ.mk hG RJ6 rfl (by decide +kernel) rfl (Nat.le_of_ble_eq_true rfl) (fun sz B hB hX => ?_)
  show V g B 0 0 _ (pcq g m) sz 0 [some (.int v), none, none, none] []
  have L2 : 10 ≤ a → ∀ dd : Nat, ∀ (sz : Nat), V g B 0 0 (QN g B 0 0 (rI (fun r m2 => r = nI (dd + (dgI a).length) ∧ m2 = m)) noX) (pcq g (m)) sz 16 [some (.int (-(nI a))), some (.int (nI dd)), some (.int (-100)), some (.int 2)] [] := by
    intro hge dd sz
    refine V.iload_n (pc := 16) hB dJ6_stringSize_0f7a4_16 rfl ?_
    refine V.bipush (pc := 17) (v := 10) hB dJ6_stringSize_0f7a4_17 rfl ?_
    refine V.icmp_ge (pc := 19) (tgt := 42) hB dJ6_stringSize_0f7a4_19 (by decide) (fun c_19 => ?_) (fun c_19 => ?_)
    · exact absurd c_19 (by decide)
    · refine V.iload_n (pc := 22) hB dJ6_stringSize_0f7a4_22 rfl ?_
      refine V.iload_n (pc := 23) hB dJ6_stringSize_0f7a4_23 rfl ?_
      refine V.icmp_le (pc := 24) (tgt := 31) hB dJ6_stringSize_0f7a4_24 (by decide) (fun c_24 => ?_) (fun c_24 => ?_)
      · exact absurd ((negI_le (b := 100) (by omega) (by decide)).mp c_24) (by omega)
      · have h10 : 10 ≤ a := hge
        refine V.iload_n (pc := 27) hB dJ6_stringSize_0f7a4_27 rfl ?_
        refine V.iload_n (pc := 28) hB dJ6_stringSize_0f7a4_28 rfl ?_
        refine V.iadd (pc := 29) hB dJ6_stringSize_0f7a4_29 ?_
        refine V.retIq (pc := 30) hB dJ6_stringSize_0f7a4_30 rfl (rfl) (by omega) (by omega) ?_
        refine ⟨?_, rfl⟩
        rw [dg_len, if_neg (by omega)]
        show (2 : Int32) + nI dd = _
        rw [show (2 : Int32) = nI 2 from rfl, nI_add, Nat.add_comm]
  have L1 : ∀ dd : Nat, ∀ (sz : Nat), V g B 0 0 (QN g B 0 0 (rI (fun r m2 => r = nI (dd + (dgI a).length) ∧ m2 = m)) noX) (pcq g (m)) sz 16 [some (.int (-(nI a))), some (.int (nI dd)), some (.int (-10)), some (.int 1)] [] := by
    intro dd sz
    refine V.iload_n (pc := 16) hB dJ6_stringSize_0f7a4_16 rfl ?_
    refine V.bipush (pc := 17) (v := 10) hB dJ6_stringSize_0f7a4_17 rfl ?_
    refine V.icmp_ge (pc := 19) (tgt := 42) hB dJ6_stringSize_0f7a4_19 (by decide) (fun c_19 => ?_) (fun c_19 => ?_)
    · exact absurd c_19 (by decide)
    · refine V.iload_n (pc := 22) hB dJ6_stringSize_0f7a4_22 rfl ?_
      refine V.iload_n (pc := 23) hB dJ6_stringSize_0f7a4_23 rfl ?_
      refine V.icmp_le (pc := 24) (tgt := 31) hB dJ6_stringSize_0f7a4_24 (by decide) (fun c_24 => ?_) (fun c_24 => ?_)
      · have hge : 10 ≤ a := (negI_le (b := 10) (by omega) (by decide)).mp c_24
        refine V.bipush (pc := 31) (v := 10) hB dJ6_stringSize_0f7a4_31 rfl ?_
        refine V.iload_n (pc := 33) hB dJ6_stringSize_0f7a4_33 rfl ?_
        refine V.imul (pc := 34) hB dJ6_stringSize_0f7a4_34 ?_
        rw [show (10 : Int32) * (-10) = -100 by decide]
        refine V.istore_n (pc := 35) hB dJ6_stringSize_0f7a4_35 (by decide) rfl ?_
        refine V.iinc (pc := 36) (v := 2) hB dJ6_stringSize_0f7a4_36 rfl (by decide) (by decide) rfl ?_
        refine V.goto (pc := 39) (tgt := 16) hB dJ6_stringSize_0f7a4_39 (by decide) ?_
        exact L2 hge dd sz
      · have hlt : ¬ 10 ≤ a := fun z => c_24 ((negI_le (b := 10) (by omega) (by decide)).mpr z)
        refine V.iload_n (pc := 27) hB dJ6_stringSize_0f7a4_27 rfl ?_
        refine V.iload_n (pc := 28) hB dJ6_stringSize_0f7a4_28 rfl ?_
        refine V.iadd (pc := 29) hB dJ6_stringSize_0f7a4_29 ?_
        refine V.retIq (pc := 30) hB dJ6_stringSize_0f7a4_30 rfl (rfl) (by omega) (by omega) ?_
        refine ⟨?_, rfl⟩
        rw [dg_len, if_pos (by omega)]
        show (1 : Int32) + nI dd = _
        rw [show (1 : Int32) = nI 1 from rfl, nI_add, Nat.add_comm]
  refine V.iconst (pc := 0) (v := 1) hB dJ6_stringSize_0f7a4_0 rfl ?_
  refine V.istore_n (pc := 1) hB dJ6_stringSize_0f7a4_1 (by decide) rfl ?_
  refine V.iload_n (pc := 2) hB dJ6_stringSize_0f7a4_2 rfl ?_
  refine V.if_lt (pc := 3) (tgt := 11) hB dJ6_stringSize_0f7a4_3 (by decide) (fun c_3 => ?_) (fun c_3 => ?_)
  · have hva : v = -(nI a) := hv.elim (fun z => absurd c_3 z.2) (fun z => z.1)
    rw [txt_neg hva c_3 ha, hva]
    rw [show (45 :: dgI a).length = 1 + (dgI a).length by rw [List.length_cons]; omega]
    have L := L1 1
    refine V.bipush (pc := 11) (v := (-10)) hB dJ6_stringSize_0f7a4_11 rfl ?_
    refine V.istore_n (pc := 13) hB dJ6_stringSize_0f7a4_13 (by decide) rfl ?_
    refine V.iconst (pc := 14) (v := 1) hB dJ6_stringSize_0f7a4_14 rfl ?_
    refine V.istore_n (pc := 15) hB dJ6_stringSize_0f7a4_15 (by decide) rfl ?_
    exact L sz
  · have hva : v = nI a := hv.elim (fun z => z.1) (fun z => absurd z.2.1 c_3)
    rw [txt_pos hva c_3 ha, hva]
    rw [show (dgI a).length = 0 + (dgI a).length by omega]
    have L := L1 0
    refine V.iconst (pc := 6) (v := 0) hB dJ6_stringSize_0f7a4_6 rfl ?_
    refine V.istore_n (pc := 7) hB dJ6_stringSize_0f7a4_7 (by decide) rfl ?_
    refine V.iload_n (pc := 8) hB dJ6_stringSize_0f7a4_8 rfl ?_
    refine V.ineg (pc := 9) hB dJ6_stringSize_0f7a4_9 ?_
    refine V.istore_n (pc := 10) hB dJ6_stringSize_0f7a4_10 (by decide) rfl ?_
    refine V.bipush (pc := 11) (v := (-10)) hB dJ6_stringSize_0f7a4_11 rfl ?_
    refine V.istore_n (pc := 13) hB dJ6_stringSize_0f7a4_13 (by decide) rfl ?_
    refine V.iconst (pc := 14) (v := 1) hB dJ6_stringSize_0f7a4_14 rfl ?_
    refine V.istore_n (pc := 15) hB dJ6_stringSize_0f7a4_15 (by decide) rfl ?_
    exact L sz

/-- the letters of a number stand ahead of the place e -/
def GQ (g : xG) (m m2 : Mem) (n e : Nat) (l : List Int32) : Prop := SQ g m2 n ∧ (∀ k, k ≠ 361 → m2.1 k = m.1 k) ∧ m2.2 = m.2 ∧ (∀ j, j < e - l.length → m2.1 361 j = m.1 361 j) ∧ ∀ j, j < l.length → m2.1 361 (e - l.length + j) = l.getD j 0
theorem GQ.nil {g : xG} {m : Mem} {n e : Nat} (h : SQ g m n) : GQ g m m n e [] := ⟨h, fun _ _ => rfl, rfl, fun _ _ => rfl, fun j h => absurd h (Nat.not_lt_zero j)⟩
theorem GQ.cons {g : xG} {m m2 : Mem} {n e c : Nat} {l : List Int32} (h : GQ g m m2 n e l) (hl : l.length < e) (he : e ≤ m.2.2) (hc : c < 128) : GQ g m (up m2 361 (e - l.length - 1) (nI c)) n e (nI c :: l) := by
  obtain ⟨h1, h2, h3, h4, h5⟩ := h
  refine ⟨h1.put (by rw [h3]; omega) hc, fun k a => by rw [up_cell _ _ _ a]; exact h2 k a, h3, fun j hj => ?_, fun j hj => ?_⟩
  · have hj' : j < e - (l.length + 1) := hj
    rw [up_slot _ _ _ (by omega)]
    exact h4 j (by omega)
  · have hj' : j < l.length + 1 := hj
    show (up m2 361 (e - l.length - 1) (nI c)).1 361 (e - (l.length + 1) + j) = _
    cases j with
    | zero => rw [show e - (l.length + 1) + 0 = e - l.length - 1 by omega, up_same]; rfl
    | succ j =>
      rw [up_slot _ _ _ (by omega), show e - (l.length + 1) + (j + 1) = e - l.length + j by omega]
      exact h5 j (by omega)

set_option maxRecDepth 100000 in
set_option maxHeartbeats 1000000 in
theorem q_getChars_pos {g : xG} (hG : GK g) {z : xE} (hE : GE g z) {m : Mem} {n : Nat} (hs : SQ g m n) {a : Nat} (ha : a ≤ 99) (hv0 : ¬ (nI a) < 0) {e : Nat} (hem : e ≤ m.2.2) (he3 : (dgI a).length ≤ e) : CQ g yJ6_getChars_ba4f3 (.code yJ6_getChars_ba4f3 cJ6_getChars_ba4f3 7 (some .int)) 1 0 0 [.int (nI a), .int (nI e), .ref (ad g m.2.1)] m (rI (fun _ m2 => GQ g m m2 n e (dgI a))) noX := by
  have h2 := hs.2.2.1
  have hdl := dg_len a
  have hd2 : (dgI a).length ≤ 2 ∧ 1 ≤ (dgI a).length := by rw [hdl]; split <;> omega
  refine CQ.mk hG RJ6 rfl (by decide +kernel) rfl (Nat.le_of_ble_eq_true rfl) (fun sz B hB hX => ?_)
  show V g B 0 0 _ (pcq g m) sz 0 [some (.int (nI a)), some (.int (nI e)), some (.ref (ad g m.2.1)), none, none, none, none] []
  have tail : ∀ (sz : Nat) (M : Mem) (p : Nat), GQ g m M n e (dgI a) → p = e - (dgI a).length → V g B 0 0 (QN g B 0 0 (rI (fun _ m2 => GQ g m m2 n e (dgI a))) noX) (pcq g (M)) sz 104 [some (.int (-(nI a))), some (.int (nI e)), some (.ref (ad g m.2.1)), none, none, some (.int (nI p)), some (.int 0)] [] := by
    intro sz M p hgd hpe
    have hM2 := hgd.2.2.1
    have hbuf : ad g m.2.1 = ad g M.2.1 := by rw [hM2]
    rw [hbuf]
    refine V.iload (pc := 104) hB dJ6_getChars_ba4f3_104 rfl ?_
    refine V.if_eq (pc := 106) (tgt := 118) hB dJ6_getChars_ba4f3_106 (by decide) (fun c_106 => ?_) (fun c_106 => ?_)
    · refine V.iload (pc := 118) hB dJ6_getChars_ba4f3_118 rfl ?_
      refine V.retIq (pc := 120) hB dJ6_getChars_ba4f3_120 rfl (rfl) (by omega) (by omega) ?_
      exact hgd
    · exact absurd rfl c_106
  refine V.iload_n (pc := 0) hB dJ6_getChars_ba4f3_0 rfl ?_
  refine V.istore (pc := 1) hB dJ6_getChars_ba4f3_1 (by decide) rfl ?_
  refine V.iload_n (pc := 3) hB dJ6_getChars_ba4f3_3 rfl ?_
  refine V.if_ge (pc := 4) (tgt := 11) hB dJ6_getChars_ba4f3_4 (by decide) (fun c_4 => ?_) (fun c_4 => ?_)
  · refine V.iconst (pc := 11) (v := 0) hB dJ6_getChars_ba4f3_11 rfl ?_
    refine V.istore (pc := 12) hB dJ6_getChars_ba4f3_12 (by decide) rfl ?_
    refine V.iload (pc := 14) hB dJ6_getChars_ba4f3_14 rfl ?_
    refine V.if_ne (pc := 16) (tgt := 22) hB dJ6_getChars_ba4f3_16 (by decide) (fun c_16 => ?_) (fun c_16 => ?_)
    · exact absurd rfl c_16
    · refine V.iload_n (pc := 19) hB dJ6_getChars_ba4f3_19 rfl ?_
      refine V.ineg (pc := 20) hB dJ6_getChars_ba4f3_20 ?_
      refine V.istore_n (pc := 21) hB dJ6_getChars_ba4f3_21 (by decide) rfl ?_
      refine V.iload_n (pc := 22) hB dJ6_getChars_ba4f3_22 rfl ?_
      refine V.bipush (pc := 23) (v := (-100)) hB dJ6_getChars_ba4f3_23 rfl ?_
      refine V.icmp_gt (pc := 25) (tgt := 72) hB dJ6_getChars_ba4f3_25 (by decide) (fun c_25 => ?_) (fun c_25 => ?_)
      · refine V.aload_n (pc := 72) hB dJ6_getChars_ba4f3_72 rfl ?_
        refine V.iinc (pc := 73) (v := nI (e - 1)) hB dJ6_getChars_ba4f3_73 rfl (dec1 (by omega)) (by decide) rfl ?_
        refine V.iload (pc := 76) hB dJ6_getChars_ba4f3_76 rfl ?_
        refine V.gets (pc := 78) hB (hE.d1) wf_J6_83 dJ6_getChars_ba4f3_78 ?_
        refine V.iload_n (pc := 81) hB dJ6_getChars_ba4f3_81 rfl ?_
        refine V.ineg (pc := 82) hB dJ6_getChars_ba4f3_82 ?_
        rw [neg_neg32]
        refine V.stb (pc := 83) (v := .int (nI (48 + a % 10))) hB (hE.d1T) (ix_nI (show a < 100 by omega) (by decide)).2 (by rw [nI_clamp (by omega)]) dJ6_getChars_ba4f3_83 ?_
        refine V.bastSBq (pc := 84) hB dJ6_getChars_ba4f3_84 (SQ.none hs) (ix_nI (show e - 1 < m.2.2 by omega) (by omega)) (nar_b _ (by omega)) ?_
        have hg1 : GQ g m (up m 361 (e - 1) (nI (48 + a % 10))) n e [nI (48 + a % 10)] := (GQ.nil hs).cons (show 0 < e by omega) hem (by omega)
        refine V.iload_n (pc := 85) hB dJ6_getChars_ba4f3_85 rfl ?_
        refine V.bipush (pc := 86) (v := (-9)) hB dJ6_getChars_ba4f3_86 rfl ?_
        refine V.icmp_ge (pc := 88) (tgt := 104) hB dJ6_getChars_ba4f3_88 (by decide) (fun c_88 => ?_) (fun c_88 => ?_)
        · have hlt : a < 10 := Nat.not_le.mp (fun z => absurd ((negI_le (b := 10) (by omega) (by decide)).mpr z) (Int32.not_le.mpr (Int32.lt_of_lt_of_le (show (-10 : Int32) < -9 by decide) c_88)))
          have hdg : dgI a = [nI (48 + a % 10)] := by unfold dgI; rw [if_pos hlt, show a % 10 = a by omega]
          have hgd : GQ g m (up m 361 (e - 1) (nI (48 + a % 10))) n e (dgI a) := by rw [hdg]; exact hg1
          have hpe : e - 1 = e - (dgI a).length := by rw [hdg]; rfl
          exact tail _ _ _ hgd hpe
        · have hge : 10 ≤ a := Nat.not_lt.mp (fun z => c_88 ((negI_le (a := 9) (by decide) (by omega)).mpr (by omega)))
          have hdg : dgI a = [nI (48 + a / 10), nI (48 + a % 10)] := by unfold dgI; rw [if_neg (by omega)]
          have hl2 : (dgI a).length = 2 := by rw [hdg]; rfl
          have hgd : GQ g m (up (up m 361 (e - 1) (nI (48 + a % 10))) 361 (e - 1 - 1) (nI (48 + a / 10))) n e (dgI a) := by rw [hdg]; exact hg1.cons (show 1 < e by omega) hem (by omega)
          have hpe : e - 1 - 1 = e - (dgI a).length := by rw [hdg]; show e - 1 - 1 = e - 2; omega
          refine V.aload_n (pc := 91) hB dJ6_getChars_ba4f3_91 rfl ?_
          refine V.iinc (pc := 92) (v := nI (e - 1 - 1)) hB dJ6_getChars_ba4f3_92 rfl (dec1 (by omega)) (by decide) rfl ?_
          refine V.iload (pc := 95) hB dJ6_getChars_ba4f3_95 rfl ?_
          refine V.gets (pc := 97) hB (hE.d10) wf_J6_87 dJ6_getChars_ba4f3_97 ?_
          refine V.iload_n (pc := 100) hB dJ6_getChars_ba4f3_100 rfl ?_
          refine V.ineg (pc := 101) hB dJ6_getChars_ba4f3_101 ?_
          rw [neg_neg32]
          refine V.stb (pc := 102) (v := .int (nI (48 + a / 10))) hB (hE.d10T) (ix_nI (show a < 100 by omega) (by decide)).2 (by rw [nI_clamp (by omega)]) dJ6_getChars_ba4f3_102 ?_
          refine V.bastSBq (pc := 103) hB dJ6_getChars_ba4f3_103 (hs.2.2.2.1) (ix_nI (show e - 1 - 1 < m.2.2 by omega) (show m.2.2 < 2 ^ 31 by omega)) (nar_b _ (by omega)) ?_
          exact tail _ _ _ hgd hpe
      · exact absurd ((negI_le (b := 100) (by omega) (by decide)).mp (Int32.not_lt.mp c_25)) (by omega)
  · exact absurd hv0 (fun z => z (Int32.not_le.mp c_4))

set_option maxRecDepth 100000 in
set_option maxHeartbeats 1000000 in
theorem q_getChars_neg {g : xG} (hG : GK g) {z : xE} (hE : GE g z) {m : Mem} {n : Nat} (hs : SQ g m n) {a : Nat} (ha : a ≤ 99) (hv0 : (-(nI a)) < 0) {e : Nat} (hem : e ≤ m.2.2) (he3 : (dgI a).length + 1 ≤ e) : CQ g yJ6_getChars_ba4f3 (.code yJ6_getChars_ba4f3 cJ6_getChars_ba4f3 7 (some .int)) 1 0 0 [.int (-(nI a)), .int (nI e), .ref (ad g m.2.1)] m (rI (fun _ m2 => GQ g m m2 n e (45 :: dgI a))) noX := by
  have h2 := hs.2.2.1
  have hdl := dg_len a
  have hd2 : (dgI a).length ≤ 2 ∧ 1 ≤ (dgI a).length := by rw [hdl]; split <;> omega
  refine CQ.mk hG RJ6 rfl (by decide +kernel) rfl (Nat.le_of_ble_eq_true rfl) (fun sz B hB hX => ?_)
  show V g B 0 0 _ (pcq g m) sz 0 [some (.int (-(nI a))), some (.int (nI e)), some (.ref (ad g m.2.1)), none, none, none, none] []
  have tail : ∀ (sz : Nat) (M : Mem) (p : Nat), GQ g m M n e (dgI a) → p = e - (dgI a).length → V g B 0 0 (QN g B 0 0 (rI (fun _ m2 => GQ g m m2 n e (45 :: dgI a))) noX) (pcq g (M)) sz 104 [some (.int (-(nI a))), some (.int (nI e)), some (.ref (ad g m.2.1)), none, none, some (.int (nI p)), some (.int 1)] [] := by
    intro sz M p hgd hpe
    have hM2 := hgd.2.2.1
    have hbuf : ad g m.2.1 = ad g M.2.1 := by rw [hM2]
    rw [hbuf]
    refine V.iload (pc := 104) hB dJ6_getChars_ba4f3_104 rfl ?_
    refine V.if_eq (pc := 106) (tgt := 118) hB dJ6_getChars_ba4f3_106 (by decide) (fun c_106 => ?_) (fun c_106 => ?_)
    · exact absurd c_106 (by decide)
    · refine V.aload_n (pc := 109) hB dJ6_getChars_ba4f3_109 rfl ?_
      refine V.iinc (pc := 110) (v := nI (p - 1)) hB dJ6_getChars_ba4f3_110 rfl (dec1 (by omega)) (by decide) rfl ?_
      refine V.iload (pc := 113) hB dJ6_getChars_ba4f3_113 rfl ?_
      refine V.bipush (pc := 115) (v := 45) hB dJ6_getChars_ba4f3_115 rfl ?_
      refine V.bastSBq (pc := 117) hB dJ6_getChars_ba4f3_117 ((by rw [hM2]; exact hs.2.2.2.1)) (ix_nI (show p - 1 < M.2.2 by rw [hM2]; omega) (by rw [hM2]; omega)) (nar_b 45 (by decide)) ?_
      refine V.iload (pc := 118) hB dJ6_getChars_ba4f3_118 rfl ?_
      refine V.retIq (pc := 120) hB dJ6_getChars_ba4f3_120 rfl (rfl) (by omega) (by omega) ?_
      have hc := hgd.cons (c := 45) (by omega) hem (by decide)
      rw [← hpe] at hc
      exact hc
  refine V.iload_n (pc := 0) hB dJ6_getChars_ba4f3_0 rfl ?_
  refine V.istore (pc := 1) hB dJ6_getChars_ba4f3_1 (by decide) rfl ?_
  refine V.iload_n (pc := 3) hB dJ6_getChars_ba4f3_3 rfl ?_
  refine V.if_ge (pc := 4) (tgt := 11) hB dJ6_getChars_ba4f3_4 (by decide) (fun c_4 => ?_) (fun c_4 => ?_)
  · exact absurd c_4 (Int32.not_le.mpr hv0)
  · refine V.iconst (pc := 7) (v := 1) hB dJ6_getChars_ba4f3_7 rfl ?_
    refine V.goto (pc := 8) (tgt := 12) hB dJ6_getChars_ba4f3_8 (by decide) ?_
    refine V.istore (pc := 12) hB dJ6_getChars_ba4f3_12 (by decide) rfl ?_
    refine V.iload (pc := 14) hB dJ6_getChars_ba4f3_14 rfl ?_
    refine V.if_ne (pc := 16) (tgt := 22) hB dJ6_getChars_ba4f3_16 (by decide) (fun c_16 => ?_) (fun c_16 => ?_)
    · refine V.iload_n (pc := 22) hB dJ6_getChars_ba4f3_22 rfl ?_
      refine V.bipush (pc := 23) (v := (-100)) hB dJ6_getChars_ba4f3_23 rfl ?_
      refine V.icmp_gt (pc := 25) (tgt := 72) hB dJ6_getChars_ba4f3_25 (by decide) (fun c_25 => ?_) (fun c_25 => ?_)
      · refine V.aload_n (pc := 72) hB dJ6_getChars_ba4f3_72 rfl ?_
        refine V.iinc (pc := 73) (v := nI (e - 1)) hB dJ6_getChars_ba4f3_73 rfl (dec1 (by omega)) (by decide) rfl ?_
        refine V.iload (pc := 76) hB dJ6_getChars_ba4f3_76 rfl ?_
        refine V.gets (pc := 78) hB (hE.d1) wf_J6_83 dJ6_getChars_ba4f3_78 ?_
        refine V.iload_n (pc := 81) hB dJ6_getChars_ba4f3_81 rfl ?_
        refine V.ineg (pc := 82) hB dJ6_getChars_ba4f3_82 ?_
        rw [neg_neg32]
        refine V.stb (pc := 83) (v := .int (nI (48 + a % 10))) hB (hE.d1T) (ix_nI (show a < 100 by omega) (by decide)).2 (by rw [nI_clamp (by omega)]) dJ6_getChars_ba4f3_83 ?_
        refine V.bastSBq (pc := 84) hB dJ6_getChars_ba4f3_84 (SQ.none hs) (ix_nI (show e - 1 < m.2.2 by omega) (by omega)) (nar_b _ (by omega)) ?_
        have hg1 : GQ g m (up m 361 (e - 1) (nI (48 + a % 10))) n e [nI (48 + a % 10)] := (GQ.nil hs).cons (show 0 < e by omega) hem (by omega)
        refine V.iload_n (pc := 85) hB dJ6_getChars_ba4f3_85 rfl ?_
        refine V.bipush (pc := 86) (v := (-9)) hB dJ6_getChars_ba4f3_86 rfl ?_
        refine V.icmp_ge (pc := 88) (tgt := 104) hB dJ6_getChars_ba4f3_88 (by decide) (fun c_88 => ?_) (fun c_88 => ?_)
        · have hlt : a < 10 := Nat.not_le.mp (fun z => absurd ((negI_le (b := 10) (by omega) (by decide)).mpr z) (Int32.not_le.mpr (Int32.lt_of_lt_of_le (show (-10 : Int32) < -9 by decide) c_88)))
          have hdg : dgI a = [nI (48 + a % 10)] := by unfold dgI; rw [if_pos hlt, show a % 10 = a by omega]
          have hgd : GQ g m (up m 361 (e - 1) (nI (48 + a % 10))) n e (dgI a) := by rw [hdg]; exact hg1
          have hpe : e - 1 = e - (dgI a).length := by rw [hdg]; rfl
          exact tail _ _ _ hgd hpe
        · have hge : 10 ≤ a := Nat.not_lt.mp (fun z => c_88 ((negI_le (a := 9) (by decide) (by omega)).mpr (by omega)))
          have hdg : dgI a = [nI (48 + a / 10), nI (48 + a % 10)] := by unfold dgI; rw [if_neg (by omega)]
          have hl2 : (dgI a).length = 2 := by rw [hdg]; rfl
          have hgd : GQ g m (up (up m 361 (e - 1) (nI (48 + a % 10))) 361 (e - 1 - 1) (nI (48 + a / 10))) n e (dgI a) := by rw [hdg]; exact hg1.cons (show 1 < e by omega) hem (by omega)
          have hpe : e - 1 - 1 = e - (dgI a).length := by rw [hdg]; show e - 1 - 1 = e - 2; omega
          refine V.aload_n (pc := 91) hB dJ6_getChars_ba4f3_91 rfl ?_
          refine V.iinc (pc := 92) (v := nI (e - 1 - 1)) hB dJ6_getChars_ba4f3_92 rfl (dec1 (by omega)) (by decide) rfl ?_
          refine V.iload (pc := 95) hB dJ6_getChars_ba4f3_95 rfl ?_
          refine V.gets (pc := 97) hB (hE.d10) wf_J6_87 dJ6_getChars_ba4f3_97 ?_
          refine V.iload_n (pc := 100) hB dJ6_getChars_ba4f3_100 rfl ?_
          refine V.ineg (pc := 101) hB dJ6_getChars_ba4f3_101 ?_
          rw [neg_neg32]
          refine V.stb (pc := 102) (v := .int (nI (48 + a / 10))) hB (hE.d10T) (ix_nI (show a < 100 by omega) (by decide)).2 (by rw [nI_clamp (by omega)]) dJ6_getChars_ba4f3_102 ?_
          refine V.bastSBq (pc := 103) hB dJ6_getChars_ba4f3_103 (hs.2.2.2.1) (ix_nI (show e - 1 - 1 < m.2.2 by omega) (show m.2.2 < 2 ^ 31 by omega)) (nar_b _ (by omega)) ?_
          exact tail _ _ _ hgd hpe
      · exact absurd ((negI_le (b := 100) (by omega) (by decide)).mp (Int32.not_lt.mp c_25)) (by omega)
    · exact absurd c_16 (by decide)

theorem GQ.app {g : xG} {m m2 : Mem} {n : Nat} {l : List Int32} (h : GQ g m m2 n (n + l.length) l) (hle : n + l.length ≤ m.2.2) : SQ g (up m2 360 3 (nI (n + l.length))) (n + l.length) ∧ SF m (up m2 360 3 (nI (n + l.length))) n ∧ ∀ j, j < l.length → (up m2 360 3 (nI (n + l.length))).1 361 (n + j) = l.getD j 0 := by
  obtain ⟨h1, h2, h3, h4, h5⟩ := h
  rw [Nat.add_sub_cancel] at h4 h5
  refine ⟨⟨up_same _ _ _ _, by show n + l.length ≤ m2.2.2; rw [h3]; exact hle, h1.2.2.1, h1.2.2.2.1, fun j hj => by rw [up_cell _ _ _ (by decide)]; exact h1.by j hj, h1.nx⟩, ⟨fun k a b => by rw [up_cell _ _ _ a]; exact h2 k b, fun j hj => by rw [up_cell _ _ _ (by decide)]; exact h4 j hj⟩, fun j hj => by rw [up_cell _ _ _ (by decide)]; exact h5 j hj⟩
set_option maxRecDepth 100000 in
set_option maxHeartbeats 1000000 in
theorem q_J5_append_c97b9 {g : xG} (hG : GK g) {z : xE} (hE : GE g z) {m : Mem} {n : Nat} (hs : SQ g m n) (hn : n < 80) {a : Nat} (ha : a ≤ 99) {v : Int32} (hv : n99 a v) : CQ g yJ5_append_c97b9 (.code yJ5_append_c97b9 cJ5_append_c97b9 4 (some (.object "java/lang/AbstractStringBuilder"))) 5 1 200 [.ref (lb g), .int v] m (rRq g (fun a2 m2 => a2 = 360 ∧ SQ g m2 (n + (txtI v).length) ∧ SF m m2 n ∧ ∀ j, j < (txtI v).length → m2.1 361 (n + j) = (txtI v).getD j 0)) noX := by
  have h2 := hs.2.2.1
  have hl3 := txt_len ha hv
  refine CQ.mk hG RJ5 rfl (by decide +kernel) rfl (Nat.le_of_ble_eq_true rfl) (fun sz B hB hX => ?_)
  show V g B 0 0 _ (pcq g m) sz 0 [some (.ref (lb g)), some (.int v), none, none] []
  refine V.aload_n (pc := 0) hB dJ5_append_c97b9_0 rfl ?_
  refine V.get (pc := 1) hB fk_SB 3 wf_J5_79 dJ5_append_c97b9_1 (by decide) (hq_SB _) rfl ?_
  rw [hs.1]
  refine V.istore_n (pc := 4) hB dJ5_append_c97b9_4 (by decide) rfl ?_
  refine V.iload_n (pc := 5) hB dJ5_append_c97b9_5 rfl ?_
  refine V.iload_n (pc := 6) hB dJ5_append_c97b9_6 rfl ?_
  refine V.csq (pc := 7) hB cw_J6_stringSize_0f7a4 wm_J5_245 wst_J6_stringSize_0f7a4 dJ5_append_c97b9_7 (q_J6_stringSize_0f7a4 hG ha hv) (by omega) (by decide) rfl (by exact Nat.le_of_ble_eq_true rfl) (by omega) (by omega) kNq (kIq (fun v_7 m_7 sz h_7 => ?_)) rfl
  obtain ⟨rfl, hm_7⟩ := h_7
  obtain rfl := hm_7.symm
  refine V.iadd (pc := 10) hB dJ5_append_c97b9_10 ?_
  rw [nI_add]
  refine V.istore_n (pc := 11) hB dJ5_append_c97b9_11 (by decide) rfl ?_
  refine V.aload_n (pc := 12) hB dJ5_append_c97b9_12 rfl ?_
  refine V.iload_n (pc := 13) hB dJ5_append_c97b9_13 rfl ?_
  refine V.cpq (pc := 14) (C := RJ4) hB cw_J5_ensureCapacityInternal_d00df wm_J5_100 wsm_J5_ensureCapacityInternal_d00df wpr_J5_ensureCapacityInternal_d00df wi_J5_ensureCapacityInternal_d00df dJ5_append_c97b9_14 (q_J5_ensureCapacityInternal_d00df hG hs (q := n + (txtI v).length) (by omega)) (RC.hp hB (hq_SB _) rfl) (by omega) (by decide) rfl (by exact Nat.le_of_ble_eq_true rfl) (by omega) (by omega) (kVq (fun m_14 sz h_14 => ?_)) rfl
  obtain ⟨hs2, hcap, hF⟩ := h_14
  refine V.aload_n (pc := 17) hB dJ5_append_c97b9_17 rfl ?_
  refine V.cuq (pc := 18) (C := RJ4) hB cw_J5_isLatin1_aae02 wm_J5_83 wsm_J5_isLatin1_aae02 ⟨rfl, rfl⟩ wi_J5_isLatin1_aae02 wse_J5_isLatin1_aae02 dJ5_append_c97b9_18 (q_J5_isLatin1_aae02 hG hE) (RC.hp hB (hq_SB _) rfl) (by omega) (by decide) rfl (by exact Nat.le_of_ble_eq_true rfl) (by omega) (by omega) (kIq (fun v_18 m_18 sz h_18 => ?_)) rfl
  obtain ⟨rfl, hm_18⟩ := h_18
  obtain rfl := hm_18.symm
  refine V.if_eq (pc := 21) (tgt := 37) hB dJ5_append_c97b9_21 (by decide) (fun c_21 => ?_) (fun c_21 => ?_)
  · exact absurd c_21 (by decide)
  · refine V.iload_n (pc := 24) hB dJ5_append_c97b9_24 rfl ?_
    refine V.iload_n (pc := 25) hB dJ5_append_c97b9_25 rfl ?_
    refine V.aload_n (pc := 26) hB dJ5_append_c97b9_26 rfl ?_
    refine V.get (pc := 27) hB fk_SB 0 wf_J5_15 dJ5_append_c97b9_27 (by decide) (hq_SB _) rfl ?_
    have hgc : CQ g yJ6_getChars_ba4f3 (.code yJ6_getChars_ba4f3 cJ6_getChars_ba4f3 7 (some .int)) 1 0 0 [.int v, .int (nI (n + (txtI v).length)), .ref (ad g m_14.2.1)] m_14 (rI (fun _ m2 => GQ g m_14 m2 n (n + (txtI v).length) (txtI v))) noX := by
      rcases hv with ⟨h1, h2⟩ | ⟨h1, h2, h3⟩
      · subst h1
        rw [txt_pos rfl h2 ha] at hcap ⊢
        exact q_getChars_pos hG hE hs2 ha h2 hcap (by omega)
      · subst h1
        rw [txt_neg rfl h2 ha] at hcap ⊢
        exact q_getChars_neg hG hE hs2 ha h2 hcap (by rw [List.length_cons]; omega)
    refine V.csq (pc := 30) hB cw_J6_getChars_ba4f3 wm_J5_248 wst_J6_getChars_ba4f3 dJ5_append_c97b9_30 (hgc) (by omega) (by decide) rfl (by exact Nat.le_of_ble_eq_true rfl) (by omega) (by omega) kNq (kIq (fun v_30 m_30 sz h_30 => ?_)) rfl
    refine V.pop (pc := 33) hB dJ5_append_c97b9_33 rfl ?_
    refine V.goto (pc := 34) (tgt := 48) hB dJ5_append_c97b9_34 (by decide) ?_
    refine V.aload_n (pc := 48) hB dJ5_append_c97b9_48 rfl ?_
    refine V.iload_n (pc := 49) hB dJ5_append_c97b9_49 rfl ?_
    refine V.p_SB_countq (pc := 50) hB wf_J5_79 dJ5_append_c97b9_50 ?_
    refine V.aload_n (pc := 53) hB dJ5_append_c97b9_53 rfl ?_
    refine V.retRq (pc := 54) hB dJ5_append_c97b9_54 rfl (Or.inl ⟨_, rfl⟩) (by omega) (by omega) ?_
    have hfin := h_30.app hcap
    exact ⟨rfl, hfin.1, SF.trans (hF.mono hs.2.1) hfin.2.1 (Nat.le_refl n), hfin.2.2⟩

set_option maxRecDepth 100000 in
set_option maxHeartbeats 1000000 in
theorem q_J4_append_bf812 {g : xG} (hG : GK g) {z : xE} (hE : GE g z) {m : Mem} {n : Nat} (hs : SQ g m n) (hn : n < 80) {a : Nat} (ha : a ≤ 99) {v : Int32} (hv : n99 a v) : CQ g yJ4_append_bf812 (.code yJ4_append_bf812 cJ4_append_bf812 2 (some (.object "java/lang/StringBuilder"))) 6 1 200 [.ref (lb g), .int v] m (rRq g (fun a2 m2 => a2 = 360 ∧ SQ g m2 (n + (txtI v).length) ∧ SF m m2 n ∧ ∀ j, j < (txtI v).length → m2.1 361 (n + j) = (txtI v).getD j 0)) noX := by
  refine CQ.mk hG RJ4 rfl (by decide +kernel) rfl (Nat.le_of_ble_eq_true rfl) (fun sz B hB hX => ?_)
  show V g B 0 0 _ (pcq g m) sz 0 [some (.ref (lb g)), some (.int v)] []
  refine V.aload_n (pc := 0) hB dJ4_append_bf812_0 rfl ?_
  refine V.iload_n (pc := 1) hB dJ4_append_bf812_1 rfl ?_
  refine V.csuq (pc := 2) (C := RJ4) hB (ci := 9) rfl cw_J5_append_c97b9 wm_J4_53 wsm_J5_append_c97b9 wsp_J4 (by decide +kernel) wi_J5_append_c97b9 dJ4_append_bf812_2 (q_J5_append_c97b9 hG hE hs hn ha hv) (RC.hp hB (hq_SB _) rfl) (by omega) (by decide) rfl (by exact Nat.le_of_ble_eq_true rfl) (by omega) (by omega) (kRq (fun v_2 m_2 sz h_2 => ?_)) rfl
  obtain ⟨rfl, hq2, hq3, hq4⟩ := h_2
  refine V.pop (pc := 5) hB dJ4_append_bf812_5 rfl ?_
  refine V.aload_n (pc := 6) hB dJ4_append_bf812_6 rfl ?_
  refine V.retRq (pc := 7) hB dJ4_append_bf812_7 rfl (Or.inl ⟨_, rfl⟩) (by omega) (by omega) ?_
  exact ⟨rfl, hq2, hq3, hq4⟩

