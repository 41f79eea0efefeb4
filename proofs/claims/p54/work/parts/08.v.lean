/-! our own judgement V: the machine in one method of ours, over a heap picture h : address → cell -/
abbrev xH : Type := Nat → Option va_E
/-- start state of the law, class ids and slots, array classes by code, addresses of the enum constants -/
abbrev xG : Type := State × va_G × (Nat → ClassId) × (Nat → Nat) × Nat × (Nat → Option va_E)
abbrev xcl : List vw_C := [(RX1, TX1, 3), (RX2, TX2, 5), (RX3, TX3, 3), (RX5, TX5, 6), (RX6, TX6, 8), (RX7, TX7, 6), (RX8, TX8, 3), (RX9, TX9, 11), (RJ0, TJ0, 4), (RJ4, TJ4, 4)]
def xty : Nat → FieldType := fun t => match t with
  | 0 => .int
  | 1 => .char
  | 2 => .int
  | 3 => .int
  | 4 => .byte
  | 5 => .object RX1
  | 6 => .object RX5
  | _ => .object RX6
def xtys (g : xG) : List (ClassId × FieldType) := [(g.2.2.1 0, xty 0), (g.2.2.1 1, xty 1), (g.2.2.1 2, xty 2), (g.2.2.1 3, xty 3), (g.2.2.1 4, xty 4), (g.2.2.1 5, xty 5), (g.2.2.1 6, xty 6), (g.2.2.1 7, xty 7)]
def GK (g : xG) : Prop := (∃ b : Nat, (∀ w ∈ lw_tbl, w.before #[Value.ref b] g.1 = true) ∧ (Jvm.Cond.and given_1 narrow_1).before #[Value.ref b] g.1 = true) ∧ va_K g.2.1 xcl (xtys g) g.1
abbrev BT : Type := Program × Launch × Env × Room × State × MethodId × Array Value × List Frame × Method × Code
def xRm (d mc ms : Nat) : Room := { frames := 40 * d, cells := mc, slots := ms, locals := 400 * d }
/-- the heap H is of size sz, holds h, is the start's below, and only our own was written -/
def RZ (g : xG) (h : xH) (sz : Nat) (H : Heap) (locs : List Loc) : Prop := H.size = sz ∧ g.1.heap.size ≤ sz ∧ (∀ q : Nat, q < g.1.heap.size → H[q]? = g.1.heap[q]?) ∧ (∀ (a : Nat) (e : va_E), h a = some e → g.1.heap.size ≤ a ∧ va_at g.2.1 xcl (a, e) H) ∧ ∀ z ∈ locs, g.1.heap.size ≤ z.base
/-- what is known of the locals -/
def LH (A : Array Slot) (nL : Nat) (ls : List (Option Value)) : Prop := A.size = nL ∧ lv_wf A ∧ ∀ (i : Nat) (v : Value), ls[i]? = some (some v) → A[i]? = some (.val v)
def V (g : xG) (B : BT) (k n : Nat) (Q : State → Prop) (h : xH) (sz pc : Nat) (ls : List (Option Value)) (st : List Value) : Prop := match B with
  | (p, l, e, R, s, m, args, below, meth, c) => ∀ (H : Heap) (locs : List Loc) (A : Array Slot), RZ g h sz H locs → LH A c.maxLocals ls → W p l e R s m args below meth c H locs k n Q (F0 m pc A st)
/-- what is known of a method's body -/
def Bd (g : xG) (B : BT) (cc : ByteArray) (nL : Nat) (own : String) (ret : Option FieldType) (d mc ms : Nat) : Prop := match B with
  | (p, l, _, R, s, m, _, _, meth, c) => p.tables.exec = Jvm.exec ∧ c.code = cc ∧ c.maxLocals = nL ∧ s.vm.findClass own = some m.cls ∧ meth.sig.returnType = ret ∧ meth.locks = false ∧ GK g ∧ g.1.WarmedH s.vm ∧ R = xRm d mc ms ∧ l.flags = flags0
theorem WD.of {g : xG} (hG : GK g) {w : Cond} (hw : WD w) (a' : Array Value) {U : State} (hW : g.1.WarmedH U.vm) : w.before a' U = true := by
  obtain ⟨⟨b, hb, -⟩, -⟩ := hG
  exact word_at hW (good_of_word hw.2) (hb w hw.1)
theorem LH.set {A' : Array Slot} {nL i : Nat} {x : Value} {ls : List (Option Value)} {lv : List (Nat × Value)} (h : lv_has A' nL lv) (hx : (i, x) ∈ lv) (ho : ∀ (j : Nat) (v : Value), j ≠ i → ls[j]? = some (some v) → (j, v) ∈ lv) : LH A' nL (ls.set i (some x)) := by
  refine ⟨h.1, h.2.1, fun j v hj => ?_⟩
  rw [List.getElem?_set] at hj
  by_cases e : i = j
  · rw [if_pos e] at hj
    by_cases e2 : i < ls.length
    · rw [if_pos e2] at hj
      cases hj
      rw [← e]
      exact h.2.2 _ hx
    · rw [if_neg e2] at hj
      cases hj
  · rw [if_neg e] at hj
    exact h.2.2 _ (ho j v (fun z => e z.symm) hj)
/-- the locals as the kit lists them -/
def prs (ls : List (Option Value)) : List (Nat × Value) := (List.range ls.length).filterMap (fun i => (ls[i]?.bind id).map (fun v => (i, v)))
theorem prs_in {ls : List (Option Value)} {i : Nat} {v : Value} : (i, v) ∈ prs ls ↔ ls[i]? = some (some v) := by
  unfold prs
  rw [List.mem_filterMap]
  constructor
  · rintro ⟨j, hj, h⟩
    cases h1 : ls[j]? with
    | none => rw [h1] at h; cases h
    | some o =>
      rw [h1] at h
      cases o with
      | none => cases h
      | some w =>
        have e : (j, w) = (i, v) := Option.some.inj h
        cases e
        exact h1
  · intro h
    refine ⟨i, List.mem_range.mpr (List.getElem?_eq_some_iff.mp h).1, ?_⟩
    rw [h]
    rfl
theorem LH.has {A : Array Slot} {nL : Nat} {ls : List (Option Value)} (h : LH A nL ls) : lv_has A nL (prs ls) := ⟨h.1, h.2.1, fun q hq => h.2.2 q.1 q.2 (prs_in.mp hq)⟩
theorem LH.mono {A : Array Slot} {nL : Nat} {ls ls' : List (Option Value)} (h : LH A nL ls) (hs : ∀ (i : Nat) (v : Value), ls'[i]? = some (some v) → ls[i]? = some (some v)) : LH A nL ls' := ⟨h.1, h.2.1, fun i v hi => h.2.2 i v (hs i v hi)⟩
/-- no long or double stands just ahead of place i -/
def ok1 (ls : List (Option Value)) (i : Nat) : Bool := match i with
  | 0 => true
  | j + 1 => match ls[j]? with
    | some (some v) => v.category == 1
    | _ => true
theorem ok1_of {ls : List (Option Value)} {i j : Nat} {v : Value} (h : ok1 ls i = true) (hj : ls[j]? = some (some v)) (e : j + 1 = i) : v.category = 1 := by
  subst e
  unfold ok1 at h
  dsimp only at h
  rw [hj] at h
  simpa using h
theorem LH.st1 {A' : Array Slot} {nL i : Nat} {x : Value} {ls : List (Option Value)} (h : lv_has A' nL ((i, x) :: (prs ls).filter (fun q => !(q.1 == i) && !(q.1 + 1 == i && q.2.category == 2)))) (ho : ok1 ls i = true) : LH A' nL (ls.set i (some x)) := by
  refine LH.set h List.mem_cons_self (fun j v hne hj => List.mem_cons_of_mem _ (List.mem_filter.mpr ⟨prs_in.mpr hj, ?_⟩))
  have h1 : (j == i) = false := by simpa using hne
  by_cases e : j + 1 = i
  · have hc := ok1_of ho hj e
    simp [h1, hc]
  · have h2 : (j + 1 == i) = false := by simpa using e
    simp [h1, h2]
theorem V.sub {g : xG} {B : BT} {k n : Nat} {Q : State → Prop} {h h' : xH} {sz pc : Nat} {ls ls' : List (Option Value)} {st : List Value} (hh : ∀ (a : Nat) (e : va_E), h' a = some e → h a = some e) (hs : ∀ (i : Nat) (v : Value), ls'[i]? = some (some v) → ls[i]? = some (some v)) (kk : V g B k n Q h' sz pc ls' st) : V g B k n Q h sz pc ls st := by
  obtain ⟨p, l, e, R, s, m, args, below, meth, c⟩ := B
  intro H locs A hz hl
  exact kk H locs A ⟨hz.1, hz.2.1, hz.2.2.1, fun a e ha => hz.2.2.2.1 a e (hh a e ha), hz.2.2.2.2⟩ (hl.mono hs)
theorem V.wid {g : xG} {B : BT} {k n k' n' : Nat} {Q : State → Prop} {h : xH} {sz pc : Nat} {ls : List (Option Value)} {st : List Value} (h1 : k ≤ k') (h2 : n ≤ n') (kk : V g B k' n' Q h sz pc ls st) : V g B k n Q h sz pc ls st := by
  obtain ⟨p, l, e, R, s, m, args, below, meth, c⟩ := B
  intro H locs A hz hl
  exact W.widen h1 h2 (kk H locs A hz hl)
section VR
variable {g : xG} {B : BT} {k n : Nat} {Q : State → Prop} {h : xH} {sz pc : Nat} {ls : List (Option Value)} {st : List Value} {cc : ByteArray} {nL : Nat} {own : String} {ret : Option FieldType} {d mc ms : Nat}
theorem V.iconst (hB : Bd g B cc nL own ret d mc ms) {i : Int} {v : Int32} (hd : decode cc pc = .ok (.iconst i, 1)) (hv : Int32.ofInt i = v) (kk : V g B k n Q h sz (pc + 1) ls (.int v :: st)) : V g B k n Q h sz pc ls (st) := by
  obtain ⟨p, l, e, R, s, m, args, below, meth, c⟩ := B
  obtain ⟨hx, hb, hml, hown, hr, hlk, hG, hW, hR, hfl⟩ := hB
  intro H locs A hz hl0
  exact lv_iconst hx hb hd hv (kk H locs A hz hl0)
theorem V.bipush (hB : Bd g B cc nL own ret d mc ms) {i : Int} {v : Int32} (hd : decode cc pc = .ok (.bipush i, 2)) (hv : (Int8.ofInt i).toInt32 = v) (kk : V g B k n Q h sz (pc + 2) ls (.int v :: st)) : V g B k n Q h sz pc ls (st) := by
  obtain ⟨p, l, e, R, s, m, args, below, meth, c⟩ := B
  obtain ⟨hx, hb, hml, hown, hr, hlk, hG, hW, hR, hfl⟩ := hB
  intro H locs A hz hl0
  exact lv_bipush hx hb hd hv (kk H locs A hz hl0)
theorem V.sipush (hB : Bd g B cc nL own ret d mc ms) {i : Int} {v : Int32} (hd : decode cc pc = .ok (.sipush i, 3)) (hv : (Int16.ofInt i).toInt32 = v) (kk : V g B k n Q h sz (pc + 3) ls (.int v :: st)) : V g B k n Q h sz pc ls (st) := by
  obtain ⟨p, l, e, R, s, m, args, below, meth, c⟩ := B
  obtain ⟨hx, hb, hml, hown, hr, hlk, hG, hW, hR, hfl⟩ := hB
  intro H locs A hz hl0
  exact lv_sipush hx hb hd hv (kk H locs A hz hl0)
theorem V.iload_n (hB : Bd g B cc nL own ret d mc ms) {i : Fin 4} {x : Int32} (hd : decode cc pc = .ok (.iload_n i, 1)) (hl : ls[(i : Nat)]? = some (some (.int x))) (kk : V g B k n Q h sz (pc + 1) ls (.int x :: st)) : V g B k n Q h sz pc ls (st) := by
  obtain ⟨p, l, e, R, s, m, args, below, meth, c⟩ := B
  obtain ⟨hx, hb, hml, hown, hr, hlk, hG, hW, hR, hfl⟩ := hB
  intro H locs A hz hl0
  exact lv_iload_n hx hb hd rfl (hl0.2.2 _ _ hl) (kk H locs A hz hl0)
theorem V.iload (hB : Bd g B cc nL own ret d mc ms) {i : Nat} {x : Int32} (hd : decode cc pc = .ok (.iload i, 2)) (hl : ls[i]? = some (some (.int x))) (kk : V g B k n Q h sz (pc + 2) ls (.int x :: st)) : V g B k n Q h sz pc ls (st) := by
  obtain ⟨p, l, e, R, s, m, args, below, meth, c⟩ := B
  obtain ⟨hx, hb, hml, hown, hr, hlk, hG, hW, hR, hfl⟩ := hB
  intro H locs A hz hl0
  exact lv_iload hx hb hd (hl0.2.2 _ _ hl) (kk H locs A hz hl0)
theorem V.aload_n (hB : Bd g B cc nL own ret d mc ms) {i : Fin 4} {x : Nat} (hd : decode cc pc = .ok (.aload_n i, 1)) (hl : ls[(i : Nat)]? = some (some (.ref x))) (kk : V g B k n Q h sz (pc + 1) ls (.ref x :: st)) : V g B k n Q h sz pc ls (st) := by
  obtain ⟨p, l, e, R, s, m, args, below, meth, c⟩ := B
  obtain ⟨hx, hb, hml, hown, hr, hlk, hG, hW, hR, hfl⟩ := hB
  intro H locs A hz hl0
  exact lv_aload_n hx hb hd rfl (hl0.2.2 _ _ hl) (kk H locs A hz hl0)
theorem V.aload (hB : Bd g B cc nL own ret d mc ms) {i : Nat} {x : Nat} (hd : decode cc pc = .ok (.aload i, 2)) (hl : ls[i]? = some (some (.ref x))) (kk : V g B k n Q h sz (pc + 2) ls (.ref x :: st)) : V g B k n Q h sz pc ls (st) := by
  obtain ⟨p, l, e, R, s, m, args, below, meth, c⟩ := B
  obtain ⟨hx, hb, hml, hown, hr, hlk, hG, hW, hR, hfl⟩ := hB
  intro H locs A hz hl0
  exact lv_aload hx hb hd (hl0.2.2 _ _ hl) (kk H locs A hz hl0)
theorem V.fload_n (hB : Bd g B cc nL own ret d mc ms) {i : Fin 4} {x : UInt32} (hd : decode cc pc = .ok (.fload_n i, 1)) (hl : ls[(i : Nat)]? = some (some (.float x))) (kk : V g B k n Q h sz (pc + 1) ls (.float x :: st)) : V g B k n Q h sz pc ls (st) := by
  obtain ⟨p, l, e, R, s, m, args, below, meth, c⟩ := B
  obtain ⟨hx, hb, hml, hown, hr, hlk, hG, hW, hR, hfl⟩ := hB
  intro H locs A hz hl0
  exact lv_fload_n hx hb hd rfl (hl0.2.2 _ _ hl) (kk H locs A hz hl0)
theorem V.fload (hB : Bd g B cc nL own ret d mc ms) {i : Nat} {x : UInt32} (hd : decode cc pc = .ok (.fload i, 2)) (hl : ls[i]? = some (some (.float x))) (kk : V g B k n Q h sz (pc + 2) ls (.float x :: st)) : V g B k n Q h sz pc ls (st) := by
  obtain ⟨p, l, e, R, s, m, args, below, meth, c⟩ := B
  obtain ⟨hx, hb, hml, hown, hr, hlk, hG, hW, hR, hfl⟩ := hB
  intro H locs A hz hl0
  exact lv_fload hx hb hd (hl0.2.2 _ _ hl) (kk H locs A hz hl0)
theorem V.dload_n (hB : Bd g B cc nL own ret d mc ms) {i : Fin 4} {x : UInt64} (hd : decode cc pc = .ok (.dload_n i, 1)) (hl : ls[(i : Nat)]? = some (some (.double x))) (kk : V g B k n Q h sz (pc + 1) ls (.double x :: st)) : V g B k n Q h sz pc ls (st) := by
  obtain ⟨p, l, e, R, s, m, args, below, meth, c⟩ := B
  obtain ⟨hx, hb, hml, hown, hr, hlk, hG, hW, hR, hfl⟩ := hB
  intro H locs A hz hl0
  exact lv_dload_n hx hb hd rfl (hl0.2.2 _ _ hl) (kk H locs A hz hl0)
theorem V.dload (hB : Bd g B cc nL own ret d mc ms) {i : Nat} {x : UInt64} (hd : decode cc pc = .ok (.dload i, 2)) (hl : ls[i]? = some (some (.double x))) (kk : V g B k n Q h sz (pc + 2) ls (.double x :: st)) : V g B k n Q h sz pc ls (st) := by
  obtain ⟨p, l, e, R, s, m, args, below, meth, c⟩ := B
  obtain ⟨hx, hb, hml, hown, hr, hlk, hG, hW, hR, hfl⟩ := hB
  intro H locs A hz hl0
  exact lv_dload hx hb hd (hl0.2.2 _ _ hl) (kk H locs A hz hl0)
theorem V.istore_n (hB : Bd g B cc nL own ret d mc ms) {i : Fin 4} {x : Int32} (hd : decode cc pc = .ok (.istore_n i, 1)) (hn : (i : Nat) < nL) (ho : ok1 ls (i : Nat) = true) (kk : V g B k n Q h sz (pc + 1) (ls.set (i : Nat) (some (.int x))) (st)) : V g B k n Q h sz pc ls (.int x :: st) := by
  obtain ⟨p, l, e, R, s, m, args, below, meth, c⟩ := B
  obtain ⟨hx, hb, hml, hown, hr, hlk, hG, hW, hR, hfl⟩ := hB
  intro H locs A hz hl0
  exact lv_istore_n hx hb hd rfl (lv := prs ls) (by rw [← hml]; exact hl0.has) hn rfl (fun A2 h2 => kk H locs A2 hz (by rw [hml]; exact LH.st1 h2 ho))
theorem V.istore (hB : Bd g B cc nL own ret d mc ms) {i : Nat} {x : Int32} (hd : decode cc pc = .ok (.istore i, 2)) (hn : i < nL) (ho : ok1 ls i = true) (kk : V g B k n Q h sz (pc + 2) (ls.set i (some (.int x))) (st)) : V g B k n Q h sz pc ls (.int x :: st) := by
  obtain ⟨p, l, e, R, s, m, args, below, meth, c⟩ := B
  obtain ⟨hx, hb, hml, hown, hr, hlk, hG, hW, hR, hfl⟩ := hB
  intro H locs A hz hl0
  exact lv_istore hx hb hd (lv := prs ls) (by rw [← hml]; exact hl0.has) hn rfl (fun A2 h2 => kk H locs A2 hz (by rw [hml]; exact LH.st1 h2 ho))
theorem V.astore_n (hB : Bd g B cc nL own ret d mc ms) {i : Fin 4} {x : Nat} (hd : decode cc pc = .ok (.astore_n i, 1)) (hn : (i : Nat) < nL) (ho : ok1 ls (i : Nat) = true) (kk : V g B k n Q h sz (pc + 1) (ls.set (i : Nat) (some (.ref x))) (st)) : V g B k n Q h sz pc ls (.ref x :: st) := by
  obtain ⟨p, l, e, R, s, m, args, below, meth, c⟩ := B
  obtain ⟨hx, hb, hml, hown, hr, hlk, hG, hW, hR, hfl⟩ := hB
  intro H locs A hz hl0
  exact lv_astore_n hx hb hd rfl (lv := prs ls) (by rw [← hml]; exact hl0.has) hn rfl (fun A2 h2 => kk H locs A2 hz (by rw [hml]; exact LH.st1 h2 ho))
theorem V.astore (hB : Bd g B cc nL own ret d mc ms) {i : Nat} {x : Nat} (hd : decode cc pc = .ok (.astore i, 2)) (hn : i < nL) (ho : ok1 ls i = true) (kk : V g B k n Q h sz (pc + 2) (ls.set i (some (.ref x))) (st)) : V g B k n Q h sz pc ls (.ref x :: st) := by
  obtain ⟨p, l, e, R, s, m, args, below, meth, c⟩ := B
  obtain ⟨hx, hb, hml, hown, hr, hlk, hG, hW, hR, hfl⟩ := hB
  intro H locs A hz hl0
  exact lv_astore hx hb hd (lv := prs ls) (by rw [← hml]; exact hl0.has) hn rfl (fun A2 h2 => kk H locs A2 hz (by rw [hml]; exact LH.st1 h2 ho))
theorem V.fstore_n (hB : Bd g B cc nL own ret d mc ms) {i : Fin 4} {x : UInt32} (hd : decode cc pc = .ok (.fstore_n i, 1)) (hn : (i : Nat) < nL) (ho : ok1 ls (i : Nat) = true) (kk : V g B k n Q h sz (pc + 1) (ls.set (i : Nat) (some (.float x))) (st)) : V g B k n Q h sz pc ls (.float x :: st) := by
  obtain ⟨p, l, e, R, s, m, args, below, meth, c⟩ := B
  obtain ⟨hx, hb, hml, hown, hr, hlk, hG, hW, hR, hfl⟩ := hB
  intro H locs A hz hl0
  exact lv_fstore_n hx hb hd rfl (lv := prs ls) (by rw [← hml]; exact hl0.has) hn rfl (fun A2 h2 => kk H locs A2 hz (by rw [hml]; exact LH.st1 h2 ho))
theorem V.fstore (hB : Bd g B cc nL own ret d mc ms) {i : Nat} {x : UInt32} (hd : decode cc pc = .ok (.fstore i, 2)) (hn : i < nL) (ho : ok1 ls i = true) (kk : V g B k n Q h sz (pc + 2) (ls.set i (some (.float x))) (st)) : V g B k n Q h sz pc ls (.float x :: st) := by
  obtain ⟨p, l, e, R, s, m, args, below, meth, c⟩ := B
  obtain ⟨hx, hb, hml, hown, hr, hlk, hG, hW, hR, hfl⟩ := hB
  intro H locs A hz hl0
  exact lv_fstore hx hb hd (lv := prs ls) (by rw [← hml]; exact hl0.has) hn rfl (fun A2 h2 => kk H locs A2 hz (by rw [hml]; exact LH.st1 h2 ho))
theorem V.iinc (hB : Bd g B cc nL own ret d mc ms) {i : Nat} {j : Int} {x v : Int32} (hd : decode cc pc = .ok (.iinc i j, 3)) (hl : ls[i]? = some (some (.int x))) (hv : x + Int32.ofInt j = v) (hn : i < nL) (ho : ok1 ls i = true) (kk : V g B k n Q h sz (pc + 3) (ls.set i (some (.int v))) st) : V g B k n Q h sz pc ls st := by
  obtain ⟨p, l, e, R, s, m, args, below, meth, c⟩ := B
  obtain ⟨hx, hb, hml, hown, hr, hlk, hG, hW, hR, hfl⟩ := hB
  intro H locs A hz hl0
  obtain ⟨q, hq⟩ := List.getElem?_of_mem (prs_in.mpr hl)
  exact lv_iinc hx hb hd (lv := prs ls) (by rw [← hml]; exact hl0.has) (k := q) hq hv hn rfl (fun A2 h2 => kk H locs A2 hz (by rw [hml]; exact LH.st1 h2 ho))
theorem V.iadd (hB : Bd g B cc nL own ret d mc ms) {x y : Int32} (hd : decode cc pc = .ok (.iadd, 1)) (kk : V g B k n Q h sz (pc + 1) ls (.int (x + y) :: st)) : V g B k n Q h sz pc ls (.int y :: .int x :: st) := by
  obtain ⟨p, l, e, R, s, m, args, below, meth, c⟩ := B
  obtain ⟨hx, hb, hml, hown, hr, hlk, hG, hW, hR, hfl⟩ := hB
  intro H locs A hz hl0
  exact lv_iadd hx hb hd (kk H locs A hz hl0)
theorem V.isub (hB : Bd g B cc nL own ret d mc ms) {x y : Int32} (hd : decode cc pc = .ok (.isub, 1)) (kk : V g B k n Q h sz (pc + 1) ls (.int (x - y) :: st)) : V g B k n Q h sz pc ls (.int y :: .int x :: st) := by
  obtain ⟨p, l, e, R, s, m, args, below, meth, c⟩ := B
  obtain ⟨hx, hb, hml, hown, hr, hlk, hG, hW, hR, hfl⟩ := hB
  intro H locs A hz hl0
  exact lv_isub hx hb hd (kk H locs A hz hl0)
theorem V.imul (hB : Bd g B cc nL own ret d mc ms) {x y : Int32} (hd : decode cc pc = .ok (.imul, 1)) (kk : V g B k n Q h sz (pc + 1) ls (.int (x * y) :: st)) : V g B k n Q h sz pc ls (.int y :: .int x :: st) := by
  obtain ⟨p, l, e, R, s, m, args, below, meth, c⟩ := B
  obtain ⟨hx, hb, hml, hown, hr, hlk, hG, hW, hR, hfl⟩ := hB
  intro H locs A hz hl0
  exact lv_imul hx hb hd (kk H locs A hz hl0)
theorem V.iand (hB : Bd g B cc nL own ret d mc ms) {x y : Int32} (hd : decode cc pc = .ok (.iand, 1)) (kk : V g B k n Q h sz (pc + 1) ls (.int (x &&& y) :: st)) : V g B k n Q h sz pc ls (.int y :: .int x :: st) := by
  obtain ⟨p, l, e, R, s, m, args, below, meth, c⟩ := B
  obtain ⟨hx, hb, hml, hown, hr, hlk, hG, hW, hR, hfl⟩ := hB
  intro H locs A hz hl0
  exact lv_iand hx hb hd (kk H locs A hz hl0)
theorem V.ixor (hB : Bd g B cc nL own ret d mc ms) {x y : Int32} (hd : decode cc pc = .ok (.ixor, 1)) (kk : V g B k n Q h sz (pc + 1) ls (.int (x ^^^ y) :: st)) : V g B k n Q h sz pc ls (.int y :: .int x :: st) := by
  obtain ⟨p, l, e, R, s, m, args, below, meth, c⟩ := B
  obtain ⟨hx, hb, hml, hown, hr, hlk, hG, hW, hR, hfl⟩ := hB
  intro H locs A hz hl0
  exact lv_ixor hx hb hd (kk H locs A hz hl0)
theorem V.ineg (hB : Bd g B cc nL own ret d mc ms) {x : Int32} (hd : decode cc pc = .ok (.ineg, 1)) (kk : V g B k n Q h sz (pc + 1) ls (.int (-x) :: st)) : V g B k n Q h sz pc ls (.int x :: st) := by
  obtain ⟨p, l, e, R, s, m, args, below, meth, c⟩ := B
  obtain ⟨hx, hb, hml, hown, hr, hlk, hG, hW, hR, hfl⟩ := hB
  intro H locs A hz hl0
  exact lv_ineg hx hb hd (kk H locs A hz hl0)
theorem V.idiv (hB : Bd g B cc nL own ret d mc ms) {x y : Int32} (hd : decode cc pc = .ok (.idiv, 1)) (hne : ¬ y = 0) (kk : V g B k n Q h sz (pc + 1) ls (.int (x / y) :: st)) : V g B k n Q h sz pc ls (.int y :: .int x :: st) := by
  obtain ⟨p, l, e, R, s, m, args, below, meth, c⟩ := B
  obtain ⟨hx, hb, hml, hown, hr, hlk, hG, hW, hR, hfl⟩ := hB
  intro H locs A hz hl0
  exact lv_idiv hx hb hd hne (kk H locs A hz hl0)
theorem V.irem (hB : Bd g B cc nL own ret d mc ms) {x y : Int32} (hd : decode cc pc = .ok (.irem, 1)) (hne : ¬ y = 0) (kk : V g B k n Q h sz (pc + 1) ls (.int (x - x / y * y) :: st)) : V g B k n Q h sz pc ls (.int y :: .int x :: st) := by
  obtain ⟨p, l, e, R, s, m, args, below, meth, c⟩ := B
  obtain ⟨hx, hb, hml, hown, hr, hlk, hG, hW, hR, hfl⟩ := hB
  intro H locs A hz hl0
  exact lv_irem hx hb hd hne (kk H locs A hz hl0)
theorem V.i2l (hB : Bd g B cc nL own ret d mc ms) {x : Int32} (hd : decode cc pc = .ok (.i2l, 1)) (kk : V g B k n Q h sz (pc + 1) ls (.long x.toInt64 :: st)) : V g B k n Q h sz pc ls (.int x :: st) := by
  obtain ⟨p, l, e, R, s, m, args, below, meth, c⟩ := B
  obtain ⟨hx, hb, hml, hown, hr, hlk, hG, hW, hR, hfl⟩ := hB
  intro H locs A hz hl0
  exact lv_i2l hx hb hd rfl (kk H locs A hz hl0)
theorem V.i2c (hB : Bd g B cc nL own ret d mc ms) {x : Int32} (hd : decode cc pc = .ok (.i2c, 1)) (kk : V g B k n Q h sz (pc + 1) ls (.int (x.toUInt32 % 65536).toInt32 :: st)) : V g B k n Q h sz pc ls (.int x :: st) := by
  obtain ⟨p, l, e, R, s, m, args, below, meth, c⟩ := B
  obtain ⟨hx, hb, hml, hown, hr, hlk, hG, hW, hR, hfl⟩ := hB
  intro H locs A hz hl0
  exact lv_i2c hx hb hd rfl (kk H locs A hz hl0)
theorem V.i2d (hB : Bd g B cc nL own ret d mc ms) {x : Int32} (hd : decode cc pc = .ok (.i2d, 1)) (kk : V g B k n Q h sz (pc + 1) ls (.double (FP.i2d x) :: st)) : V g B k n Q h sz pc ls (.int x :: st) := by
  obtain ⟨p, l, e, R, s, m, args, below, meth, c⟩ := B
  obtain ⟨hx, hb, hml, hown, hr, hlk, hG, hW, hR, hfl⟩ := hB
  intro H locs A hz hl0
  exact lv_i2d hx hb hd (kk H locs A hz hl0)
theorem V.i2f (hB : Bd g B cc nL own ret d mc ms) {x : Int32} (hd : decode cc pc = .ok (.i2f, 1)) (kk : V g B k n Q h sz (pc + 1) ls (.float (FP.i2f x) :: st)) : V g B k n Q h sz pc ls (.int x :: st) := by
  obtain ⟨p, l, e, R, s, m, args, below, meth, c⟩ := B
  obtain ⟨hx, hb, hml, hown, hr, hlk, hG, hW, hR, hfl⟩ := hB
  intro H locs A hz hl0
  exact lv_i2f hx hb hd (kk H locs A hz hl0)
theorem V.ddiv (hB : Bd g B cc nL own ret d mc ms) {x y : UInt64} (hd : decode cc pc = .ok (.ddiv, 1)) (hne : vf_n64 (FP.ddiv x y)) (kk : V g B k n Q h sz (pc + 1) ls (.double (FP.ddiv x y) :: st)) : V g B k n Q h sz pc ls (.double y :: .double x :: st) := by
  obtain ⟨p, l, e, R, s, m, args, below, meth, c⟩ := B
  obtain ⟨hx, hb, hml, hown, hr, hlk, hG, hW, hR, hfl⟩ := hB
  intro H locs A hz hl0
  exact lv_ddiv hx hb hd hne (kk H locs A hz hl0)
theorem V.fdiv (hB : Bd g B cc nL own ret d mc ms) {x y : UInt32} (hd : decode cc pc = .ok (.fdiv, 1)) (hne : vf_n32 (FP.fdiv x y)) (kk : V g B k n Q h sz (pc + 1) ls (.float (FP.fdiv x y) :: st)) : V g B k n Q h sz pc ls (.float y :: .float x :: st) := by
  obtain ⟨p, l, e, R, s, m, args, below, meth, c⟩ := B
  obtain ⟨hx, hb, hml, hown, hr, hlk, hG, hW, hR, hfl⟩ := hB
  intro H locs A hz hl0
  exact lv_fdiv hx hb hd hne (kk H locs A hz hl0)
theorem V.f2d (hB : Bd g B cc nL own ret d mc ms) {x : UInt32} (hd : decode cc pc = .ok (.f2d, 1)) (hne : vf_n64 (FP.f2d x)) (kk : V g B k n Q h sz (pc + 1) ls (.double (FP.f2d x) :: st)) : V g B k n Q h sz pc ls (.float x :: st) := by
  obtain ⟨p, l, e, R, s, m, args, below, meth, c⟩ := B
  obtain ⟨hx, hb, hml, hown, hr, hlk, hG, hW, hR, hfl⟩ := hB
  intro H locs A hz hl0
  exact lv_f2d hx hb hd hne (kk H locs A hz hl0)
theorem V.dcmp (hB : Bd g B cc nL own ret d mc ms) {x y : UInt64} {op : CmpOp} (hd : decode cc pc = .ok (.dcmp op, 1)) (kk : V g B k n Q h sz (pc + 1) ls (.int (Op.cmpValue (FP.dcmp x y) op) :: st)) : V g B k n Q h sz pc ls (.double y :: .double x :: st) := by
  obtain ⟨p, l, e, R, s, m, args, below, meth, c⟩ := B
  obtain ⟨hx, hb, hml, hown, hr, hlk, hG, hW, hR, hfl⟩ := hB
  intro H locs A hz hl0
  exact lv_dcmp hx hb hd (kk H locs A hz hl0)
theorem V.fcmp (hB : Bd g B cc nL own ret d mc ms) {x y : UInt32} {op : CmpOp} (hd : decode cc pc = .ok (.fcmp op, 1)) (kk : V g B k n Q h sz (pc + 1) ls (.int (Op.cmpValue (FP.fcmp x y) op) :: st)) : V g B k n Q h sz pc ls (.float y :: .float x :: st) := by
  obtain ⟨p, l, e, R, s, m, args, below, meth, c⟩ := B
  obtain ⟨hx, hb, hml, hown, hr, hlk, hG, hW, hR, hfl⟩ := hB
  intro H locs A hz hl0
  exact lv_fcmp hx hb hd (kk H locs A hz hl0)
theorem V.lcmp (hB : Bd g B cc nL own ret d mc ms) {x y : Int64} (hd : decode cc pc = .ok (.lcmp, 1)) (kk : V g B k n Q h sz (pc + 1) ls (.int (lg_cmp x y) :: st)) : V g B k n Q h sz pc ls (.long y :: .long x :: st) := by
  obtain ⟨p, l, e, R, s, m, args, below, meth, c⟩ := B
  obtain ⟨hx, hb, hml, hown, hr, hlk, hG, hW, hR, hfl⟩ := hB
  intro H locs A hz hl0
  exact W.lcmp hx hb hd (kk H locs A hz hl0)
theorem V.dup (hB : Bd g B cc nL own ret d mc ms) {va : Value} (hd : decode cc pc = .ok (.dup, 1)) (hva : va.category = 1) (kk : V g B k n Q h sz (pc + 1) ls (va :: va :: st)) : V g B k n Q h sz pc ls (va :: st) := by
  obtain ⟨p, l, e, R, s, m, args, below, meth, c⟩ := B
  obtain ⟨hx, hb, hml, hown, hr, hlk, hG, hW, hR, hfl⟩ := hB
  intro H locs A hz hl0
  exact lv_dup hx hb hd hva (kk H locs A hz hl0)
theorem V.dup2 (hB : Bd g B cc nL own ret d mc ms) {va vb : Value} (hd : decode cc pc = .ok (.dup2, 1)) (hva : va.category = 1) (hvb : vb.category = 1) (kk : V g B k n Q h sz (pc + 1) ls (va :: vb :: va :: vb :: st)) : V g B k n Q h sz pc ls (va :: vb :: st) := by
  obtain ⟨p, l, e, R, s, m, args, below, meth, c⟩ := B
  obtain ⟨hx, hb, hml, hown, hr, hlk, hG, hW, hR, hfl⟩ := hB
  intro H locs A hz hl0
  exact lv_dup2_11 hx hb hd hva hvb (kk H locs A hz hl0)
theorem V.pop (hB : Bd g B cc nL own ret d mc ms) {va : Value} (hd : decode cc pc = .ok (.pop, 1)) (hva : va.category = 1) (kk : V g B k n Q h sz (pc + 1) ls (st)) : V g B k n Q h sz pc ls (va :: st) := by
  obtain ⟨p, l, e, R, s, m, args, below, meth, c⟩ := B
  obtain ⟨hx, hb, hml, hown, hr, hlk, hG, hW, hR, hfl⟩ := hB
  intro H locs A hz hl0
  exact lv_pop hx hb hd hva (kk H locs A hz hl0)
theorem V.goto (hB : Bd g B cc nL own ret d mc ms) {off : Int} {tgt : Nat} (hd : decode cc pc = .ok (.goto off, 3)) (ht : (pc : Int) + off = (tgt : Int)) (kk : V g B k n Q h sz tgt ls (st)) : V g B k n Q h sz pc ls (st) := by
  obtain ⟨p, l, e, R, s, m, args, below, meth, c⟩ := B
  obtain ⟨hx, hb, hml, hown, hr, hlk, hG, hW, hR, hfl⟩ := hB
  intro H locs A hz hl0
  exact lv_goto hx hb hd ht (kk H locs A hz hl0)
theorem V.icmp_eq (hB : Bd g B cc nL own ret d mc ms) {x y : Int32} {off : Int} {tgt : Nat} (hd : decode cc pc = .ok (.if_icmp .eq off, 3)) (ht : (pc : Int) + off = (tgt : Int)) (kt : x = y → V g B k n Q h sz tgt ls st) (kf : ¬ x = y → V g B k n Q h sz (pc + 3) ls st) : V g B k n Q h sz pc ls (.int y :: .int x :: st) := by
  obtain ⟨p, l, e, R, s, m, args, below, meth, c⟩ := B
  obtain ⟨hx, hb, hml, hown, hr, hlk, hG, hW, hR, hfl⟩ := hB
  intro H locs A hz hl0
  exact lv_icmp_eq hx hb hd ht (fun q => kt q H locs A hz hl0) (fun q => kf q H locs A hz hl0)
theorem V.icmp_ne (hB : Bd g B cc nL own ret d mc ms) {x y : Int32} {off : Int} {tgt : Nat} (hd : decode cc pc = .ok (.if_icmp .ne off, 3)) (ht : (pc : Int) + off = (tgt : Int)) (kt : ¬ x = y → V g B k n Q h sz tgt ls st) (kf : x = y → V g B k n Q h sz (pc + 3) ls st) : V g B k n Q h sz pc ls (.int y :: .int x :: st) := by
  obtain ⟨p, l, e, R, s, m, args, below, meth, c⟩ := B
  obtain ⟨hx, hb, hml, hown, hr, hlk, hG, hW, hR, hfl⟩ := hB
  intro H locs A hz hl0
  exact lv_icmp_ne hx hb hd ht (fun q => kt q H locs A hz hl0) (fun q => kf q H locs A hz hl0)
theorem V.icmp_lt (hB : Bd g B cc nL own ret d mc ms) {x y : Int32} {off : Int} {tgt : Nat} (hd : decode cc pc = .ok (.if_icmp .lt off, 3)) (ht : (pc : Int) + off = (tgt : Int)) (kt : x < y → V g B k n Q h sz tgt ls st) (kf : ¬ x < y → V g B k n Q h sz (pc + 3) ls st) : V g B k n Q h sz pc ls (.int y :: .int x :: st) := by
  obtain ⟨p, l, e, R, s, m, args, below, meth, c⟩ := B
  obtain ⟨hx, hb, hml, hown, hr, hlk, hG, hW, hR, hfl⟩ := hB
  intro H locs A hz hl0
  exact lv_icmp_lt hx hb hd ht (fun q => kt q H locs A hz hl0) (fun q => kf q H locs A hz hl0)
theorem V.icmp_ge (hB : Bd g B cc nL own ret d mc ms) {x y : Int32} {off : Int} {tgt : Nat} (hd : decode cc pc = .ok (.if_icmp .ge off, 3)) (ht : (pc : Int) + off = (tgt : Int)) (kt : y ≤ x → V g B k n Q h sz tgt ls st) (kf : ¬ y ≤ x → V g B k n Q h sz (pc + 3) ls st) : V g B k n Q h sz pc ls (.int y :: .int x :: st) := by
  obtain ⟨p, l, e, R, s, m, args, below, meth, c⟩ := B
  obtain ⟨hx, hb, hml, hown, hr, hlk, hG, hW, hR, hfl⟩ := hB
  intro H locs A hz hl0
  exact lv_icmp_ge hx hb hd ht (fun q => kt q H locs A hz hl0) (fun q => kf q H locs A hz hl0)
theorem V.icmp_gt (hB : Bd g B cc nL own ret d mc ms) {x y : Int32} {off : Int} {tgt : Nat} (hd : decode cc pc = .ok (.if_icmp .gt off, 3)) (ht : (pc : Int) + off = (tgt : Int)) (kt : y < x → V g B k n Q h sz tgt ls st) (kf : ¬ y < x → V g B k n Q h sz (pc + 3) ls st) : V g B k n Q h sz pc ls (.int y :: .int x :: st) := by
  obtain ⟨p, l, e, R, s, m, args, below, meth, c⟩ := B
  obtain ⟨hx, hb, hml, hown, hr, hlk, hG, hW, hR, hfl⟩ := hB
  intro H locs A hz hl0
  exact lv_icmp_gt hx hb hd ht (fun q => kt q H locs A hz hl0) (fun q => kf q H locs A hz hl0)
theorem V.icmp_le (hB : Bd g B cc nL own ret d mc ms) {x y : Int32} {off : Int} {tgt : Nat} (hd : decode cc pc = .ok (.if_icmp .le off, 3)) (ht : (pc : Int) + off = (tgt : Int)) (kt : x ≤ y → V g B k n Q h sz tgt ls st) (kf : ¬ x ≤ y → V g B k n Q h sz (pc + 3) ls st) : V g B k n Q h sz pc ls (.int y :: .int x :: st) := by
  obtain ⟨p, l, e, R, s, m, args, below, meth, c⟩ := B
  obtain ⟨hx, hb, hml, hown, hr, hlk, hG, hW, hR, hfl⟩ := hB
  intro H locs A hz hl0
  exact lv_icmp_le hx hb hd ht (fun q => kt q H locs A hz hl0) (fun q => kf q H locs A hz hl0)
theorem V.if_eq (hB : Bd g B cc nL own ret d mc ms) {x : Int32} {off : Int} {tgt : Nat} (hd : decode cc pc = .ok (.ifCond .eq off, 3)) (ht : (pc : Int) + off = (tgt : Int)) (kt : x = 0 → V g B k n Q h sz tgt ls st) (kf : ¬ x = 0 → V g B k n Q h sz (pc + 3) ls st) : V g B k n Q h sz pc ls (.int x :: st) := by
  obtain ⟨p, l, e, R, s, m, args, below, meth, c⟩ := B
  obtain ⟨hx, hb, hml, hown, hr, hlk, hG, hW, hR, hfl⟩ := hB
  intro H locs A hz hl0
  exact lv_if_eq hx hb hd ht (fun q => kt q H locs A hz hl0) (fun q => kf q H locs A hz hl0)
theorem V.if_ne (hB : Bd g B cc nL own ret d mc ms) {x : Int32} {off : Int} {tgt : Nat} (hd : decode cc pc = .ok (.ifCond .ne off, 3)) (ht : (pc : Int) + off = (tgt : Int)) (kt : ¬ x = 0 → V g B k n Q h sz tgt ls st) (kf : x = 0 → V g B k n Q h sz (pc + 3) ls st) : V g B k n Q h sz pc ls (.int x :: st) := by
  obtain ⟨p, l, e, R, s, m, args, below, meth, c⟩ := B
  obtain ⟨hx, hb, hml, hown, hr, hlk, hG, hW, hR, hfl⟩ := hB
  intro H locs A hz hl0
  exact lv_if_ne hx hb hd ht (fun q => kt q H locs A hz hl0) (fun q => kf q H locs A hz hl0)
theorem V.if_lt (hB : Bd g B cc nL own ret d mc ms) {x : Int32} {off : Int} {tgt : Nat} (hd : decode cc pc = .ok (.ifCond .lt off, 3)) (ht : (pc : Int) + off = (tgt : Int)) (kt : x < 0 → V g B k n Q h sz tgt ls st) (kf : ¬ x < 0 → V g B k n Q h sz (pc + 3) ls st) : V g B k n Q h sz pc ls (.int x :: st) := by
  obtain ⟨p, l, e, R, s, m, args, below, meth, c⟩ := B
  obtain ⟨hx, hb, hml, hown, hr, hlk, hG, hW, hR, hfl⟩ := hB
  intro H locs A hz hl0
  exact lv_if_lt hx hb hd ht (fun q => kt q H locs A hz hl0) (fun q => kf q H locs A hz hl0)
theorem V.if_ge (hB : Bd g B cc nL own ret d mc ms) {x : Int32} {off : Int} {tgt : Nat} (hd : decode cc pc = .ok (.ifCond .ge off, 3)) (ht : (pc : Int) + off = (tgt : Int)) (kt : 0 ≤ x → V g B k n Q h sz tgt ls st) (kf : ¬ 0 ≤ x → V g B k n Q h sz (pc + 3) ls st) : V g B k n Q h sz pc ls (.int x :: st) := by
  obtain ⟨p, l, e, R, s, m, args, below, meth, c⟩ := B
  obtain ⟨hx, hb, hml, hown, hr, hlk, hG, hW, hR, hfl⟩ := hB
  intro H locs A hz hl0
  exact lv_if_ge hx hb hd ht (fun q => kt q H locs A hz hl0) (fun q => kf q H locs A hz hl0)
theorem V.if_gt (hB : Bd g B cc nL own ret d mc ms) {x : Int32} {off : Int} {tgt : Nat} (hd : decode cc pc = .ok (.ifCond .gt off, 3)) (ht : (pc : Int) + off = (tgt : Int)) (kt : 0 < x → V g B k n Q h sz tgt ls st) (kf : ¬ 0 < x → V g B k n Q h sz (pc + 3) ls st) : V g B k n Q h sz pc ls (.int x :: st) := by
  obtain ⟨p, l, e, R, s, m, args, below, meth, c⟩ := B
  obtain ⟨hx, hb, hml, hown, hr, hlk, hG, hW, hR, hfl⟩ := hB
  intro H locs A hz hl0
  exact lv_if_gt hx hb hd ht (fun q => kt q H locs A hz hl0) (fun q => kf q H locs A hz hl0)
theorem V.if_le (hB : Bd g B cc nL own ret d mc ms) {x : Int32} {off : Int} {tgt : Nat} (hd : decode cc pc = .ok (.ifCond .le off, 3)) (ht : (pc : Int) + off = (tgt : Int)) (kt : x ≤ 0 → V g B k n Q h sz tgt ls st) (kf : ¬ x ≤ 0 → V g B k n Q h sz (pc + 3) ls st) : V g B k n Q h sz pc ls (.int x :: st) := by
  obtain ⟨p, l, e, R, s, m, args, below, meth, c⟩ := B
  obtain ⟨hx, hb, hml, hown, hr, hlk, hG, hW, hR, hfl⟩ := hB
  intro H locs A hz hl0
  exact lv_if_le hx hb hd ht (fun q => kt q H locs A hz hl0) (fun q => kf q H locs A hz hl0)
theorem V.tsw_in (hB : Bd g B cc nL own ret d mc ms) {dflt lo hi : Int} {offs : Array Int} {len : Nat} {x : Int32} {off : Int} {tgt : Nat} (hd : decode cc pc = .ok (.tableswitch dflt lo hi offs, len)) (h1 : ¬ x.toInt < lo) (h2 : ¬ hi < x.toInt) (ho : offs[(x.toInt - lo).toNat]? = some off) (ht : (pc : Int) + off = (tgt : Int)) (kk : V g B k n Q h sz tgt ls st) : V g B k n Q h sz pc ls (.int x :: st) := by
  obtain ⟨p, l, e, R, s, m, args, below, meth, c⟩ := B
  obtain ⟨hx, hb, hml, hown, hr, hlk, hG, hW, hR, hfl⟩ := hB
  intro H locs A hz hl0
  exact lv_tableIn hx hb hd h1 h2 ho ht (kk H locs A hz hl0)
theorem V.tsw_out (hB : Bd g B cc nL own ret d mc ms) {dflt lo hi : Int} {offs : Array Int} {len : Nat} {x : Int32} {tgt : Nat} (hd : decode cc pc = .ok (.tableswitch dflt lo hi offs, len)) (h1 : x.toInt < lo ∨ hi < x.toInt) (ht : (pc : Int) + dflt = (tgt : Int)) (kk : V g B k n Q h sz tgt ls st) : V g B k n Q h sz pc ls (.int x :: st) := by
  obtain ⟨p, l, e, R, s, m, args, below, meth, c⟩ := B
  obtain ⟨hx, hb, hml, hown, hr, hlk, hG, hW, hR, hfl⟩ := hB
  intro H locs A hz hl0
  exact lv_tableOut hx hb hd h1 ht (kk H locs A hz hl0)
end VR
