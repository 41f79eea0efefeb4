/-! rows of V that read and write our cells -/
def FK (ci : Nat) (C : String) (T : u_T) (N : Nat) (ty : Nat → FieldType) : Prop := xcl[ci]? = some (C, T, N) ∧ (∀ w ∈ u_ws C T N, WD w) ∧ (∀ k, k < N → parseFieldDescriptor (T k).2.2.1 = some (ty k)) ∧ ∀ a, a < N → ∀ b, b < N → a ≠ b → (T a).2.1 ≠ (T b).2.1
theorem RZ.put {g : xG} {h h' : xH} {sz : Nat} {H H' : Heap} {locs : List Loc} {a i : Nat} {e : va_E} (hz : RZ g h sz H locs) (e2 : H'.size = H.size) (e3 : ∀ q, q ≠ a → H'[q]? = H[q]?) (ha : g.1.heap.size ≤ a) (hat : va_at g.2.1 xcl (a, e) H') (h1 : h' a = some e) (h2 : ∀ q, q ≠ a → h' q = h q) : RZ g h' sz H' (locs ++ [⟨a, i⟩]) := by
  obtain ⟨z1, z2, z3, z4, z5⟩ := hz
  refine ⟨by rw [e2]; exact z1, z2, fun q hq => ?_, fun q x hx => ?_, fun z hm => ?_⟩
  · rw [e3 q (by omega)]
    exact z3 q hq
  · by_cases hqa : q = a
    · subst hqa
      rw [h1] at hx
      cases hx
      exact ⟨ha, hat⟩
    · rw [h2 q hqa] at hx
      exact ⟨(z4 q x hx).1, (z4 q x hx).2.kept (e3 q hqa)⟩
  · rcases List.mem_append.mp hm with hm | hm
    · exact z5 z hm
    · have : z = ⟨a, i⟩ := by simpa using hm
      rw [this]
      exact ha
theorem RZ.new {g : xG} {h h' : xH} {sz : Nat} {H H' : Heap} {locs : List Loc} {e : va_E} (hz : RZ g h sz H locs) (e2 : H'.size = sz + 1) (e3 : ∀ q, q < sz → H'[q]? = H[q]?) (hat : va_at g.2.1 xcl (sz, e) H') (h1 : h' sz = some e) (h2 : ∀ q, q ≠ sz → h' q = h q) : RZ g h' (sz + 1) H' locs := by
  obtain ⟨z1, z2, z3, z4, z5⟩ := hz
  refine ⟨e2, by omega, fun q hq => ?_, fun q x hx => ?_, z5⟩
  · rw [e3 q (by omega)]
    exact z3 q hq
  · by_cases hqa : q = sz
    · subst hqa
      rw [h1] at hx
      cases hx
      exact ⟨z2, hat⟩
    · rw [h2 q hqa] at hx
      have hl := (z4 q x hx).2.lt
      dsimp only at hl
      exact ⟨(z4 q x hx).1, (z4 q x hx).2.kept (e3 q (by omega))⟩
theorem FK.hts {g : xG} {ci N : Nat} {C : String} {T : u_T} {ty : Nat → FieldType} (hF : FK ci C T N ty) (hG : GK g) {s : State} (hW : g.1.WarmedH s.vm) (args : Array Value) : ∀ w ∈ u_ws C T N, w.before args s = true := fun w hw => (hF.2.1 w hw).of hG args hW
theorem GK.kn {g : xG} (hG : GK g) {s : State} (hW : g.1.WarmedH s.vm) : va_K g.2.1 xcl (xtys g) s := hG.2.moved hW.alike
section VH
variable {g : xG} {B : BT} {k n : Nat} {Q : State → Prop} {h : xH} {sz pc : Nat} {ls : List (Option Value)} {st : List Value} {cc : ByteArray} {nL : Nat} {own : String} {ret : Option FieldType} {d mc ms : Nat}
theorem V.get (hB : Bd g B cc nL own ret d mc ms) {ci N idx a : Nat} {C : String} {T : u_T} {ty : Nat → FieldType} {fs : List Value} {v : Value} (hF : FK ci C T N ty) (f : Nat) (hlink : WD (.fieldLink own idx (T f).1 (T f).2.1 (T f).2.2.1)) (hd : decode cc pc = .ok (.getfield idx, 3)) (hf : f < N) (he : h a = some (.inr (ci, fs))) (hv : fs[f]? = some v) (kk : V g B k n Q h sz (pc + 3) ls (v :: st)) : V g B k n Q h sz pc ls (.ref a :: st) := by
  obtain ⟨p, l, e, R, s, m, args, below, meth, c⟩ := B
  obtain ⟨hx, hb, hml, hown, hr, hlk, hG, hW, hR, hfl⟩ := hB
  intro H locs A hz hl0
  have hP : va_P g.2.1 xcl [(a, .inr (ci, fs))] H := fun q x hq => by
    cases q with
    | zero => cases hq; exact (hz.2.2.2.1 a _ he).2
    | succ q => cases hq
  exact va_get hx hb (hF.hts hG hW args) (fun _ h => h) hown (hG.kn hW) hP 0 rfl hF.1 f hf (hlink.of hG args hW) (fun _ h => h) hv hd (kk H locs A hz hl0)
theorem V.put (hB : Bd g B cc nL own ret d mc ms) {ci N idx a : Nat} {C : String} {T : u_T} {ty : Nat → FieldType} {fs : List Value} {v : Value} (hF : FK ci C T N ty) (f : Nat) (hlink : WD (.fieldLink own idx (T f).1 (T f).2.1 (T f).2.2.1)) (hd : decode cc pc = .ok (.putfield idx, 3)) (hf : f < N) (hfin : (T f).2.2.2 = false) (he : h a = some (.inr (ci, fs))) (hl : f < fs.length) (hn : narrow (ty f) v = v) (hfit : fits (ty f) v = true) {h' : xH} (h1 : h' a = some (.inr (ci, fs.set f v))) (h2 : ∀ q, q ≠ a → h' q = h q) (kk : V g B k n Q h' sz (pc + 3) ls st) : V g B k n Q h sz pc ls (v :: .ref a :: st) := by
  obtain ⟨p, l, e, R, s, m, args, below, meth, c⟩ := B
  obtain ⟨hx, hb, hml, hown, hr, hlk, hG, hW, hR, hfl⟩ := hB
  intro H locs A hz hl0
  have hts := hF.hts hG hW args
  have hK := hG.kn hW
  obtain ⟨hc, -, hty, hnm⟩ := hF
  have hap := va_apart (own := own) hts (fun _ h => h) ty hty hnm hK hc
  obtain ⟨ha, hat⟩ := hz.2.2.2.1 a _ he
  obtain ⟨r, g1, cell, q1, q2, q3, q4⟩ := hat
  have hr9 : r = (C, T, N) := Option.some.inj (g1.symm.trans hc)
  subst hr9
  obtain ⟨hS, hfc, kC, hkC, hkind⟩ := hK.1 ci _ hc
  obtain ⟨cf, kf, fi, fd, hi, hsl⟩ := hS f hf
  have hlay := hts _ (u_in_lay hf)
  unfold u_lay at hlay
  rw [if_neg (by rw [hfin]; decide)] at hlay
  have hst := (u_facts hfc hkC (u_lays hts (fun _ h => h) hf) hi).1
  have h6 := u_store hfc hkC hkind hlay hi (hty f hf) hn hfit
  refine W.putK hx hb (f := fd) ⟨hown, hlink.of hG args hW, ⟨_, _, _, hi⟩, hst⟩ (by rw [q2]; exact h6) q1 q3 (by rw [hsl]; exact k2_hasslot (q4 f hf)) rfl rfl hd fun H' e1 e2 e3 => ?_
  rw [hsl] at e1 ⊢
  exact kk H' _ A (hz.put (e := .inr (ci, fs.set f v)) e2 e3 ha ⟨_, hc, t_OB.to (V := updV (vp_V fs) f v) ⟨_, e1, q2, q3, t_set q4 hap hf v⟩ (fun j _ => vp_updV_set hl v j)⟩ h1 h2) hl0
theorem V.putF (hB : Bd g B cc nL own ret d mc ms) (hini : ∀ p l e R s m args below meth c, B = (p, l, e, R, s, m, args, below, meth, c) → meth.name = "<init>") {ci N idx a : Nat} {C : String} {T : u_T} {ty : Nat → FieldType} {fs : List Value} {v : Value} (hF : FK ci C T N ty) (f : Nat) (hlink : WD (.fieldLink own idx (T f).1 (T f).2.1 (T f).2.2.1)) (hd : decode cc pc = .ok (.putfield idx, 3)) (hf : f < N) (hfin : (T f).2.2.2 = true) (hdecl : (T f).1 = own) (he : h a = some (.inr (ci, fs))) (hl : f < fs.length) (hn : narrow (ty f) v = v) (hfit : fits (ty f) v = true) {h' : xH} (h1 : h' a = some (.inr (ci, fs.set f v))) (h2 : ∀ q, q ≠ a → h' q = h q) (kk : V g B k n Q h' sz (pc + 3) ls st) : V g B k n Q h sz pc ls (v :: .ref a :: st) := by
  obtain ⟨p, l, e, R, s, m, args, below, meth, c⟩ := B
  obtain ⟨hx, hb, hml, hown, hr, hlk, hG, hW, hR, hfl⟩ := hB
  have hin2 := hini _ _ _ _ _ _ _ _ _ _ rfl
  intro H locs A hz hl0
  have hts := hF.hts hG hW args
  have hK := hG.kn hW
  obtain ⟨hc, -, hty, hnm⟩ := hF
  have hap := va_apart (own := own) hts (fun _ h => h) ty hty hnm hK hc
  obtain ⟨ha, hat⟩ := hz.2.2.2.1 a _ he
  obtain ⟨r, g1, cell, q1, q2, q3, q4⟩ := hat
  have hr9 : r = (C, T, N) := Option.some.inj (g1.symm.trans hc)
  subst hr9
  obtain ⟨hS, hfc, kC, hkC, hkind⟩ := hK.1 ci _ hc
  obtain ⟨cf, kf, fi, fd, hi, hsl⟩ := hS f hf
  have hlay := hts _ (u_in_lay hf)
  unfold u_lay at hlay
  rw [if_pos hfin] at hlay
  have hst := (u_facts hfc hkC (u_lays hts (fun _ h => h) hf) hi).1
  have hcf : m.cls = cf := by
    obtain ⟨_, _, c', _, _, _, -, -, hf', -, -, -, hown2, -⟩ := Cond.laysFinal_spec hlay
    have e1 : c' = cf := by have := hi.symm.trans hf'; simp at this; exact this.1.symm
    rw [hdecl] at hown2
    rw [← e1]; exact Option.some.inj (hown.symm.trans hown2)
  have h6 := u_fits hfc hkC hkind (Or.inr hlay) hi (hty f hf) hn hfit
  refine W.putFinK hx hb hown (hlink.of hG args hW) hi hst hcf hin2 (by rw [q2]; exact h6) q1 q3 (by rw [hsl]; exact k2_hasslot (q4 f hf)) rfl rfl hd fun H' e1 e2 e3 => ?_
  rw [hsl] at e1 ⊢
  exact kk H' _ A (hz.put (e := .inr (ci, fs.set f v)) e2 e3 ha ⟨_, hc, t_OB.to (V := updV (vp_V fs) f v) ⟨_, e1, q2, q3, t_set q4 hap hf v⟩ (fun j _ => vp_updV_set hl v j)⟩ h1 h2) hl0
theorem V.alen (hB : Bd g B cc nL own ret d mc ms) {a t : Nat} {ty : FieldType} {x : vp_A} {cA : ClassId} {v : Int32} (ht : (xtys g)[t]? = some (cA, ty)) (hd : decode cc pc = .ok (.arraylength, 1)) (he : h a = some (.inl (cA, x))) (hv : Int32.ofNat x.1 = v) (kk : V g B k n Q h sz (pc + 1) ls (.int v :: st)) : V g B k n Q h sz pc ls (.ref a :: st) := by
  obtain ⟨p, l, e, R, s, m, args, below, meth, c⟩ := B
  obtain ⟨hx, hb, hml, hown, hr, hlk, hG, hW, hR, hfl⟩ := hB
  intro H locs A hz hl0
  have hP : va_P g.2.1 xcl [(a, .inl (cA, x))] H := fun q y hq => by
    cases q with
    | zero => cases hq; exact (hz.2.2.2.1 a _ he).2
    | succ q => cases hq
  exact va_alen hx hb (hG.kn hW) hP 0 t rfl ht hv hd (kk H locs A hz hl0)
theorem V.aald (hB : Bd g B cc nL own ret d mc ms) {a t b N : Nat} {cA : ClassId} {C : String} {f : Nat → Option Nat} {i : Int32} (ht : (xtys g)[t]? = some (cA, .object C)) (hd : decode cc pc = .ok (.aaload, 1)) (he : h a = some (.inl (cA, N, .inr (.inr (.inr (.inr f)))))) (hin : vp_in i N) (hv : f i.toNatClampNeg = some b) (kk : V g B k n Q h sz (pc + 1) ls (.ref b :: st)) : V g B k n Q h sz pc ls (.int i :: .ref a :: st) := by
  obtain ⟨p, l, e, R, s, m, args, below, meth, c⟩ := B
  obtain ⟨hx, hb, hml, hown, hr, hlk, hG, hW, hR, hfl⟩ := hB
  intro H locs A hz hl0
  have hP : va_P g.2.1 xcl [(a, .inl (cA, N, .inr (.inr (.inr (.inr f)))))] H := fun q y hq => by
    cases q with
    | zero => cases hq; exact (hz.2.2.2.1 a _ he).2
    | succ q => cases hq
  refine va_aldq hx hb (hG.kn hW) hP 0 t rfl ht hin hd ?_
  rw [hv]
  exact kk H locs A hz hl0
theorem V.iald (hB : Bd g B cc nL own ret d mc ms) {a N : Nat} {f : Nat → Int32} {i : Int32} (hd : decode cc pc = .ok (.iaload, 1)) (he : h a = some (.inl (g.2.2.1 0, N, .inl f))) (hin : vp_in i N) (kk : V g B k n Q h sz (pc + 1) ls (.int (f i.toNatClampNeg) :: st)) : V g B k n Q h sz pc ls (.int i :: .ref a :: st) := by
  obtain ⟨p, l, e, R, s, m, args, below, meth, c⟩ := B
  obtain ⟨hx, hb, hml, hown, hr, hlk, hG, hW, hR, hfl⟩ := hB
  intro H locs A hz hl0
  have hP : va_P g.2.1 xcl [(a, .inl (g.2.2.1 0, N, .inl f))] H := fun q y hq => by
    cases q with
    | zero => cases hq; exact (hz.2.2.2.1 a _ he).2
    | succ q => cases hq
  exact va_iald hx hb (hG.kn hW) hP 0 0 rfl rfl hin hd (kk H locs A hz hl0)
theorem V.cald (hB : Bd g B cc nL own ret d mc ms) {a N : Nat} {f : Nat → Int32} {i : Int32} (hd : decode cc pc = .ok (.caload, 1)) (he : h a = some (.inl (g.2.2.1 1, N, .inl f))) (hin : vp_in i N) (kk : V g B k n Q h sz (pc + 1) ls (.int (f i.toNatClampNeg) :: st)) : V g B k n Q h sz pc ls (.int i :: .ref a :: st) := by
  obtain ⟨p, l, e, R, s, m, args, below, meth, c⟩ := B
  obtain ⟨hx, hb, hml, hown, hr, hlk, hG, hW, hR, hfl⟩ := hB
  intro H locs A hz hl0
  have hP : va_P g.2.1 xcl [(a, .inl (g.2.2.1 1, N, .inl f))] H := fun q y hq => by
    cases q with
    | zero => cases hq; exact (hz.2.2.2.1 a _ he).2
    | succ q => cases hq
  exact va_cald hx hb (hG.kn hW) hP 0 1 rfl rfl hin hd (kk H locs A hz hl0)
theorem V.bald (hB : Bd g B cc nL own ret d mc ms) {a N : Nat} {f : Nat → Int32} {i : Int32} (hd : decode cc pc = .ok (.baload, 1)) (he : h a = some (.inl (g.2.2.1 4, N, .inl f))) (hin : vp_in i N) (kk : V g B k n Q h sz (pc + 1) ls (.int (f i.toNatClampNeg) :: st)) : V g B k n Q h sz pc ls (.int i :: .ref a :: st) := by
  obtain ⟨p, l, e, R, s, m, args, below, meth, c⟩ := B
  obtain ⟨hx, hb, hml, hown, hr, hlk, hG, hW, hR, hfl⟩ := hB
  intro H locs A hz hl0
  have hP : va_P g.2.1 xcl [(a, .inl (g.2.2.1 4, N, .inl f))] H := fun q y hq => by
    cases q with
    | zero => cases hq; exact (hz.2.2.2.1 a _ he).2
    | succ q => cases hq
  exact va_bald hx hb (hG.kn hW) hP 0 4 rfl rfl hin hd (kk H locs A hz hl0)
theorem V.iast (hB : Bd g B cc nL own ret d mc ms) {a N : Nat} {f : Nat → Int32} {i : Int32} {x : Int32} (hd : decode cc pc = .ok (.iastore, 1)) (he : h a = some (.inl (g.2.2.1 0, N, .inl f))) (hin : vp_in i N) {h' : xH} (h1 : h' a = some (.inl (g.2.2.1 0, N, .inl (upd f i.toNatClampNeg x)))) (h2 : ∀ q, q ≠ a → h' q = h q) (kk : V g B k n Q h' sz (pc + 1) ls st) : V g B k n Q h sz pc ls (.int x :: .int i :: .ref a :: st) := by
  obtain ⟨p, l, e, R, s, m, args, below, meth, c⟩ := B
  obtain ⟨hx, hb, hml, hown, hr, hlk, hG, hW, hR, hfl⟩ := hB
  intro H locs A hz hl0
  obtain ⟨ha, hat⟩ := hz.2.2.2.1 a _ he
  refine W.iast hx hb (show H[a]? = some (vp_cell _ _) from hat) (((hG.kn hW).2 0 _ rfl).1 N (fun j => .int (f j))) (fun q => by cases q) (by show ¬ (i < 0 ∨ (arrV _ _ _).slots.size ≤ _); rw [arrV_size]; exact hin) rfl rfl hd fun H1 e1 e2 e3 => ?_
  refine kk H1 _ A (hz.put e2 e3 ha ?_ h1 h2) hl0
  show H1[a]? = some (vp_cell _ _)
  rw [e1]
  rw [vp_cell_i, vp_cell_i, arrV_store]
  congr 2
  funext q
  by_cases hq : q = i.toNatClampNeg
  · subst hq
    simp [updV, upd, vp_nar]
    try rfl
  · simp [updV, upd, hq]
theorem V.cast (hB : Bd g B cc nL own ret d mc ms) {a N : Nat} {f : Nat → Int32} {i : Int32} {x : Int32} (hd : decode cc pc = .ok (.castore, 1)) (he : h a = some (.inl (g.2.2.1 1, N, .inl f))) (hin : vp_in i N) {h' : xH} (h1 : h' a = some (.inl (g.2.2.1 1, N, .inl (upd f i.toNatClampNeg (vp_nar .char x))))) (h2 : ∀ q, q ≠ a → h' q = h q) (kk : V g B k n Q h' sz (pc + 1) ls st) : V g B k n Q h sz pc ls (.int x :: .int i :: .ref a :: st) := by
  obtain ⟨p, l, e, R, s, m, args, below, meth, c⟩ := B
  obtain ⟨hx, hb, hml, hown, hr, hlk, hG, hW, hR, hfl⟩ := hB
  intro H locs A hz hl0
  obtain ⟨ha, hat⟩ := hz.2.2.2.1 a _ he
  refine W.cast hx hb (show H[a]? = some (vp_cell _ _) from hat) (((hG.kn hW).2 1 _ rfl).1 N (fun j => .int (f j))) (fun q => by cases q) (by show ¬ (i < 0 ∨ (arrV _ _ _).slots.size ≤ _); rw [arrV_size]; exact hin) rfl rfl hd fun H1 e1 e2 e3 => ?_
  refine kk H1 _ A (hz.put e2 e3 ha ?_ h1 h2) hl0
  show H1[a]? = some (vp_cell _ _)
  rw [e1]
  rw [vp_cell_i, vp_cell_i, arrV_store]
  congr 2
  funext q
  by_cases hq : q = i.toNatClampNeg
  · subst hq
    simp [updV, upd, vp_nar]
    try rfl
  · simp [updV, upd, hq]
theorem V.bast (hB : Bd g B cc nL own ret d mc ms) {a N : Nat} {f : Nat → Int32} {i : Int32} {x : Int32} (hd : decode cc pc = .ok (.bastore, 1)) (he : h a = some (.inl (g.2.2.1 4, N, .inl f))) (hin : vp_in i N) {h' : xH} (h1 : h' a = some (.inl (g.2.2.1 4, N, .inl (upd f i.toNatClampNeg (vp_nar .byte x))))) (h2 : ∀ q, q ≠ a → h' q = h q) (kk : V g B k n Q h' sz (pc + 1) ls st) : V g B k n Q h sz pc ls (.int x :: .int i :: .ref a :: st) := by
  obtain ⟨p, l, e, R, s, m, args, below, meth, c⟩ := B
  obtain ⟨hx, hb, hml, hown, hr, hlk, hG, hW, hR, hfl⟩ := hB
  intro H locs A hz hl0
  obtain ⟨ha, hat⟩ := hz.2.2.2.1 a _ he
  refine W.bast hx hb (show H[a]? = some (vp_cell _ _) from hat) (((hG.kn hW).2 4 _ rfl).1 N (fun j => .int (f j))) (fun q => by cases q) (by show ¬ (i < 0 ∨ (arrV _ _ _).slots.size ≤ _); rw [arrV_size]; exact hin) rfl rfl hd fun H1 e1 e2 e3 => ?_
  refine kk H1 _ A (hz.put e2 e3 ha ?_ h1 h2) hl0
  show H1[a]? = some (vp_cell _ _)
  rw [e1]
  rw [vp_cell_i, vp_cell_i, arrV_store]
  congr 2
  funext q
  by_cases hq : q = i.toNatClampNeg
  · subst hq
    simp [updV, upd, vp_nar]
    try rfl
  · simp [updV, upd, hq]
end VH
