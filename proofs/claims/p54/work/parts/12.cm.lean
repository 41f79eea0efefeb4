/-! contracts over the memory, and their calls -/
abbrev OV : Type := Option Value
def rI (P : Int32 → Mem → Prop) : OV → Mem → Prop := fun r m => ∃ v : Int32, r = some (.int v) ∧ P v m
def rV (P : Mem → Prop) : OV → Mem → Prop := fun r m => r = none ∧ P m
def rR (g : xG) (P : Nat → Mem → Prop) : OV → Mem → Prop := fun r m => ∃ a : Nat, r = some (.ref (ad g a)) ∧ P a m
def rA (P : Nat → Mem → Prop) : OV → Mem → Prop := fun r m => ∃ a : Nat, r = some (.ref a) ∧ P a m
def rD (P : UInt64 → Mem → Prop) : OV → Mem → Prop := fun r m => ∃ v : UInt64, r = some (.double v) ∧ P v m
def rF (P : UInt32 → Mem → Prop) : OV → Mem → Prop := fun r m => ∃ v : UInt32, r = some (.float v) ∧ P v m
def noX : String → Mem → Prop := fun _ _ => False
def CC (g : xG) (y : MethodName) (w0 : Cond) (d mc ms : Nat) (av : List Value) (m : Mem) (P : OV → Mem → Prop) (PX : String → Mem → Prop) : Prop :=
  ∀ sz : Nat, Ct g y w0 d mc ms av (hp g m) sz (fun r h' _ => ∃ m', h' = hp g m' ∧ P r m') (fun E h' _ => ∃ m', h' = hp g m' ∧ PX E m')
def QM (g : xG) (B : BT) (mc ms : Nat) (P : OV → Mem → Prop) (PX : String → Mem → Prop) : State → Prop := QE g B mc ms (fun r h' _ => ∃ m', h' = hp g m' ∧ P r m') (fun E h' _ => ∃ m', h' = hp g m' ∧ PX E m')
theorem CC.mk {g : xG} (hG : GK g) {y : MethodName} {cc : ByteArray} {nL : Nat} {ret : Option FieldType} {d mc ms : Nat} {av : List Value} {m : Mem} {P : OV → Mem → Prop} {PX : String → Mem → Prop} (own : String) (hown : y.cls = own) (hy : plainFor y = true) (h1 : av.all (fun v => v.category == 1) = true) (h2 : av.length ≤ nL)
    (body : ∀ (sz : Nat) (B : BT), Bd g B cc nL own ret d mc ms → Bx B [] → V g B 0 0 (QM g B mc ms P PX) (hp g m) sz 0 (ls0 av nL) []) : CC g y (.code y cc nL ret) d mc ms av m P PX :=
  fun sz => Ct.mk hG own hown hy h1 h2 (fun B hB hX _ => body sz B hB hX)
theorem CC.imp {g : xG} {y : MethodName} {w0 : Cond} {d mc ms : Nat} {av : List Value} {m : Mem} {P P' : OV → Mem → Prop} {PX PX' : String → Mem → Prop} (h : CC g y w0 d mc ms av m P PX) (hP : ∀ r m', P r m' → P' r m') (hX : ∀ E m', PX E m' → PX' E m') : CC g y w0 d mc ms av m P' PX' :=
  fun sz => (h sz).imp (fun r _ _ ⟨m', e, hq⟩ => ⟨m', e, hP r m' hq⟩) (fun E _ _ ⟨m', e, hq⟩ => ⟨m', e, hX E m' hq⟩)
section VC
variable {g : xG} {B : BT} {k n : Nat} {Q : State → Prop} {m : Mem} {sz pc : Nat} {ls : List (Option Value)} {st : List Value} {cc : ByteArray} {nL : Nat} {own : String} {ret : Option FieldType} {d mc ms : Nat} {PX : String → Mem → Prop}
theorem V.retI (hB : Bd g B cc nL own ret d mc ms) {v : Int32} {ty : FieldType} {P : Int32 → Mem → Prop} (hd : decode cc pc = .ok (.ireturn, 1)) (hr : ret = some ty) (hn : narrow ty (.int v) = .int v) (hk : k ≤ mc) (hs : n ≤ ms) (hq : P v m) : V g B k n (QM g B mc ms (rI P) PX) (hp g m) sz pc ls [.int v] := V.wid hk hs (V.zret hB hd hr hn ⟨m, rfl, v, rfl, hq⟩)
theorem V.retV (hB : Bd g B cc nL own ret d mc ms) {P : Mem → Prop} (hd : decode cc pc = .ok (.return_, 1)) (hr : ret = none) (hk : k ≤ mc) (hs : n ≤ ms) (hq : P m) : V g B k n (QM g B mc ms (rV P) PX) (hp g m) sz pc ls [] := V.wid hk hs (V.vret hB hd hr ⟨m, rfl, rfl, hq⟩)
theorem V.retR (hB : Bd g B cc nL own ret d mc ms) {a : Nat} {rt : FieldType} {P : Nat → Mem → Prop} (hd : decode cc pc = .ok (.areturn, 1)) (hr : ret = some rt) (hrt : (∃ n, rt = .object n) ∨ ∃ t, rt = .array t) (hk : k ≤ mc) (hs : n ≤ ms) (hq : P a m) : V g B k n (QM g B mc ms (rR g P) PX) (hp g m) sz pc ls [.ref (ad g a)] := V.wid hk hs (V.aret hB hd hr hrt ⟨m, rfl, a, rfl, hq⟩)
theorem V.mem {m2 : Mem} (e : m = m2) (kk : V g B k n Q (hp g m2) sz pc ls st) : V g B k n Q (hp g m) sz pc ls st := e ▸ kk
/-- thrown on to the caller -/
theorem VX.outM (hB : Bd g B cc nL own ret d mc ms) (hX : Bx B []) {E : String} {P : OV → Mem → Prop} (hk : k ≤ mc) (hn : n ≤ ms) (hq : PX E m) : VX g B k n (QM g B mc ms P PX) (hp g m) sz pc ls E := VX.out hB hX hk hn ⟨m, rfl, hq⟩
section
variable {y : MethodName} {bytes : ByteArray} {maxL np idx d' mc' ms' : Nat} {rt : Option FieldType} {av : List Value} {PX' : String → Mem → Prop} {st0 : List Value}
theorem V.cv (hB : Bd g B cc nL own ret d mc ms) {a : Nat} {P : OV → Mem → Prop} (hC : CW y bytes maxL rt np) (hl : WD (.methodLink own idx y)) (hin : WD (.instanceMethod y)) (hse : WD (.selects y.cls y y)) (hd : decode cc pc = .ok (.invokevirtual idx, 3)) (hM : CC g y (.code y bytes maxL rt) d' mc' ms' (.ref a :: av) m P PX') {ci N : Nat} {C : String} {T : u_T} {ty : Nat → FieldType} {fs : List Value} (he : hp g m a = some (.inr (ci, fs))) (hF : FK ci C T N ty) (hcl : y.cls = C) (hd' : d' < d) (hL : maxL ≤ 300) (hnp : av.length = np) (hst : (st.map fun v => v.category).sum ≤ 8) (hc : k + mc' ≤ mc) (hs : n + ms' ≤ ms)
    (kx : ∀ (E : String) (m' : Mem) (sz' : Nat), PX' E m' → VX g B (k + mc') (n + ms') Q (hp g m') sz' pc ls E)
    (kk : ∀ (v : OV) (m' : Mem) (sz' : Nat), P v m' → V g B (k + mc') (n + ms') Q (hp g m') sz' (pc + 3) ls (v.toList ++ st)) (hst0 : st0 = av.reverse ++ .ref a :: st) : V g B k n Q (hp g m) sz pc ls st0 := by
  subst hcl
  exact V.callV hB hC hl hin hse hd hd' hL (hM sz) he hF.1 hnp hst hc hs (fun E h' sz' ⟨m', e, hq⟩ => by subst e; exact kx E m' sz' hq) (fun v h' sz' ⟨m', e, hq⟩ => by subst e; exact kk v m' sz' hq) hst0
theorem V.cs (hB : Bd g B cc nL own ret d mc ms) {P : OV → Mem → Prop} (hC : CW y bytes maxL rt np) (hl : WD (.methodLink own idx y)) (hse : WD (.static y)) (hd : decode cc pc = .ok (.invokestatic idx, 3)) (hM : CC g y (.code y bytes maxL rt) d' mc' ms' av m P PX') (hd' : d' < d) (hL : maxL ≤ 300) (hnp : av.length = np) (hst : (st.map fun v => v.category).sum ≤ 8) (hc : k + mc' ≤ mc) (hs : n + ms' ≤ ms)
    (kx : ∀ (E : String) (m' : Mem) (sz' : Nat), PX' E m' → VX g B (k + mc') (n + ms') Q (hp g m') sz' pc ls E)
    (kk : ∀ (v : OV) (m' : Mem) (sz' : Nat), P v m' → V g B (k + mc') (n + ms') Q (hp g m') sz' (pc + 3) ls (v.toList ++ st)) (hst0 : st0 = av.reverse ++ st) : V g B k n Q (hp g m) sz pc ls st0 :=
  V.callS hB hC hl hse hd hd' hL (hM sz) hnp hst hc hs (fun E h' sz' ⟨m', e, hq⟩ => by subst e; exact kx E m' sz' hq) (fun v h' sz' ⟨m', e, hq⟩ => by subst e; exact kk v m' sz' hq) hst0
end
/-- callees that answer an int, nothing, a cell -/
theorem kI {P : Int32 → Mem → Prop} {pc' : Nat} (kk : ∀ (v : Int32) (m' : Mem) (sz' : Nat), P v m' → V g B k n Q (hp g m') sz' pc' ls (.int v :: st)) : ∀ (v : OV) (m' : Mem) (sz' : Nat), rI P v m' → V g B k n Q (hp g m') sz' pc' ls (v.toList ++ st) := by
  rintro _ m' sz' ⟨v, rfl, hq⟩
  exact kk v m' sz' hq
theorem kV {P : Mem → Prop} {pc' : Nat} (kk : ∀ (m' : Mem) (sz' : Nat), P m' → V g B k n Q (hp g m') sz' pc' ls st) : ∀ (v : OV) (m' : Mem) (sz' : Nat), rV P v m' → V g B k n Q (hp g m') sz' pc' ls (v.toList ++ st) := by
  rintro _ m' sz' ⟨rfl, hq⟩
  exact kk m' sz' hq
theorem kR {P : Nat → Mem → Prop} {pc' : Nat} (kk : ∀ (a : Nat) (m' : Mem) (sz' : Nat), P a m' → V g B k n Q (hp g m') sz' pc' ls (.ref (ad g a) :: st)) : ∀ (v : OV) (m' : Mem) (sz' : Nat), rR g P v m' → V g B k n Q (hp g m') sz' pc' ls (v.toList ++ st) := by
  rintro _ m' sz' ⟨v, rfl, hq⟩
  exact kk v m' sz' hq
theorem kN {pc' : Nat} : ∀ (E : String) (m' : Mem) (sz' : Nat), noX E m' → VX g B k n Q (hp g m') sz' pc' ls E := fun _ _ _ h => h.elim
/-- references out of our rows of references -/
theorem V.aaldLk (hB : Bd g B cc nL own ret d mc ms) {i j : Nat} {x : Int32} (hi : i < 11) (hd : decode cc pc = .ok (.aaload, 1)) (hx : ix x j 5) (kk : V g B k n Q (hp g m) sz (pc + 1) ls (.ref (ad g (LK i j)) :: st)) : V g B k n Q (hp g m) sz pc ls (.int x :: .ref (ad g (LA i + 1)) :: st) :=
  V.aald hB (t := 6) rfl hd (hp_at (ca_Lakes hi m)) hx.2 (by rw [hx.1]; exact if_pos (Nat.not_le.mp fun q => hx.2 (Or.inr (by rw [hx.1]; exact q)))) kk
theorem V.aaldPast (hB : Bd g B cc nL own ret d mc ms) {j : Nat} {x : Int32} (hd : decode cc pc = .ok (.aaload, 1)) (hx : ix x j 8) (kk : V g B k n Q (hp g m) sz (pc + 1) ls (.ref (ad g (LA (3 + j))) :: st)) : V g B k n Q (hp g m) sz pc ls (.int x :: .ref (ad g 92) :: st) :=
  V.aald hB (t := 7) rfl hd (hp_at (ca_Past m)) hx.2 (by rw [hx.1]; exact if_pos (Nat.not_le.mp fun q => hx.2 (Or.inr (by rw [hx.1]; exact q)))) kk
theorem V.aaldCmds (hB : Bd g B cc nL own ret d mc ms) {j : Nat} {x : Int32} (hd : decode cc pc = .ok (.aaload, 1)) (hx : ix x j 12) (kk : V g B k n Q (hp g m) sz (pc + 1) ls (.ref (ad g (CM j)) :: st)) : V g B k n Q (hp g m) sz pc ls (.int x :: .ref (ad g 335) :: st) :=
  V.aald hB (t := 5) rfl hd (hp_at (ca_Cmds m)) hx.2 (by rw [hx.1]; exact if_pos (Nat.not_le.mp fun q => hx.2 (Or.inr (by rw [hx.1]; exact q)))) kk
end VC
