/-! throws of the class's own: new E(text) and athrow -/
theorem GK.nd {g : xG} (hG : GK g) : ∃ b : Nat, (∀ w ∈ lw_tbl, w.before #[Value.ref b] g.1 = true) ∧ ∀ w ∈ flatC (Jvm.Cond.and given_1 narrow_1), w.before #[Value.ref b] g.1 = true := by
  obtain ⟨⟨b, h1, h2⟩, -⟩ := hG
  exact ⟨b, h1, flat_of_before _ h2⟩
def Bs (g : xG) (B : BT) : Prop := match B with
  | (_, _, _, _, s, _, _, _, _, _) => g.1.heap.size ≤ s.heap.size ∧ ∀ q, q < g.1.heap.size → s.heap[q]? = g.1.heap[q]?
/-- as Ct.mk, the start's heap beside -/
theorem Ct.mkX {g : xG} (hG : GK g) {y : MethodName} {cc : ByteArray} {nL : Nat} {ret : Option FieldType} {d mc ms : Nat} {av : List Value} {h : xH} {sz : Nat} {Qr : Option Value → xH → Nat → Prop} {Qx : String → xH → Nat → Prop} (own : String) (hown : y.cls = own) (hy : plainFor y = true) (h1 : av.all (fun v => v.category == 1) = true) (h2 : av.length ≤ nL)
    (body : ∀ B : BT, Bd g B cc nL own ret d mc ms → Bx B [] → (y.name = "<init>" → Bi B) → Bs g B → V g B 0 0 (QE g B mc ms Qr Qx) h sz 0 (ls0 av nL) []) : Ct g y (.code y cc nL ret) d mc ms av h sz Qr Qx := by
  subst hown
  intro l hfl
  refine vy_ofW (cc := cc) (maxL := nL) (ret := ret) (ws' := []) hy rfl ?_
  intro p e s m args below meth c s₁ B hml ht hv
  obtain ⟨rfl, hW, hz⟩ := hv
  have hbd : Bd g (p, l, e, (headSpec [.code y cc nL ret] (xRm d mc ms)).room, s, m, av.toArray, below, meth, c) cc nL y.cls ret d mc ms := ⟨B.exec, B.bytes, hml, findClass_of_methodNamed B.named, B.returns, B.notSynchronized, hG, hW, rfl, hfl⟩
  have hk := body _ hbd (by
    show c.exceptionTable.toList = []
    cases hc : c.exceptionTable.toList with
    | nil => rfl
    | cons x r => exact (ht x (by rw [hc]; exact List.mem_cons_self)).elim) (fun hn => (name_of_methodNamed B.named B.method).1.trans hn) ⟨by have := hz.1; have := hz.2.1; omega, hz.2.2.1⟩
  have := hk s.heap [] ((lg_sl av ++ List.replicate (nL - (lg_sl av).length) Slot.unset).toArray) hz (by rw [hml]; exact LH.entry h1 h2)
  rw [lg_entry_eq]
  exact this
theorem CC.mkX {g : xG} (hG : GK g) {y : MethodName} {cc : ByteArray} {nL : Nat} {ret : Option FieldType} {d mc ms : Nat} {av : List Value} {m : Mem} {P : OV → Mem → Prop} {PX : String → Mem → Prop} (own : String) (hown : y.cls = own) (hy : plainFor y = true) (h1 : av.all (fun v => v.category == 1) = true) (h2 : av.length ≤ nL)
    (body : ∀ (sz : Nat) (B : BT), Bd g B cc nL own ret d mc ms → Bx B [] → Bs g B → V g B 0 0 (QM g B mc ms P PX) (hp g m) sz 0 (ls0 av nL) []) : CC g y (.code y cc nL ret) d mc ms av m P PX :=
  fun sz => Ct.mkX hG own hown hy h1 h2 (fun B hB hX _ hS => body sz B hB hX hS)
/-- what a throw of the class E with a text wants of the tables -/
def TW (own : String) (ik is ic : Nat) (E text : String) : Prop := WD (.classLink own ik E) ∧ WD (.initialized E) ∧ Cond.stringRef own is text ∈ lw_tbl ∧ Cond.exactly (.string own is) "java/lang/String" ∈ flatC (Jvm.Cond.and given_1 narrow_1) ∧
  (∀ w ∈ vx_atS own ic E ["java/lang/RuntimeException", "java/lang/Exception"], WD w ∨ (w = .castable E E ∧ w ∈ lw_tbl) ∨ (∃ x, w = .declares x ∧ w ∈ lw_tbl)) ∧ (∀ w ∈ Cond.classLink own ik E :: Cond.initialized E :: vx_atS own ic E ["java/lang/RuntimeException", "java/lang/Exception"], vx_ot w = true) ∧ Bundle.fit E = true
theorem tw_Z : (Cond.laysStatic Bundle.tN "UNASSIGNED_STACK" Bundle.steD ∈ lw_tbl ∧ Cond.laysStatic Bundle.tN "SUPPRESSED_SENTINEL" Bundle.listD ∈ lw_tbl ∧ Cond.initialized Bundle.tN ∈ lw_tbl) ∧ Cond.isRef (.static Bundle.tN "UNASSIGNED_STACK" Bundle.steD) ∈ flatC (Jvm.Cond.and given_1 narrow_1) ∧ Cond.isRef (.static Bundle.tN "SUPPRESSED_SENTINEL" Bundle.listD) ∈ flatC (Jvm.Cond.and given_1 narrow_1) := by decide +kernel
theorem GK.zq {g : xG} (hG : GK g) {s : State} (hW : g.1.WarmedH s.vm) (h1 : g.1.heap.size ≤ s.heap.size) (h2 : ∀ q, q < g.1.heap.size → s.heap[q]? = g.1.heap[q]?) : vx_Zq Bundle.tN "UNASSIGNED_STACK" Bundle.steD (xFree g) s s.heap ∧ vx_Zq Bundle.tN "SUPPRESSED_SENTINEL" Bundle.listD (xFree g) s s.heap := by
  obtain ⟨b, hw, hn⟩ := hG.nd
  obtain ⟨⟨a1, a2, a3⟩, a4, a5⟩ := tw_Z
  have hA : ∀ a : Nat, a < g.1.heap.size → ¬ xFree g a := fun a h z => absurd z (Nat.not_le.mpr h)
  exact ⟨((vx_Zqof (hw _ a1) (hw _ a3) (hn _ a4) hA).moved hW.alike).kept (fun q hq _ => h2 q hq), ((vx_Zqof (hw _ a2) (hw _ a3) (hn _ a5) hA).moved hW.alike).kept (fun q hq _ => h2 q hq)⟩
theorem TW.str {g : xG} (hG : GK g) {own E text : String} {ik is ic : Nat} (hT : TW own ik is ic E text) {s : State} (hW : g.1.WarmedH s.vm) : ∃ sa, vk_R own is text sa s := by
  obtain ⟨b, hw, hn⟩ := hG.nd
  obtain ⟨-, -, h1, h2, -⟩ := hT
  obtain ⟨a, c, cA, kA, q1, -⟩ := Cond.exactly_spec (args := #[Value.ref b]) (first := g.1) (o := none) (s := g.1) (idx := []) (t := .string own is) (cls := "java/lang/String") (hn _ h2)
  exact ⟨a, (vk_R.of (hw _ h1) q1).warm hW⟩
theorem TW.at {g : xG} (hG : GK g) {own E text : String} {ik is ic : Nat} (hT : TW own ik is ic E text) {s : State} (hW : g.1.WarmedH s.vm) (args : Array Value) : ∀ w ∈ vx_atS own ic E ["java/lang/RuntimeException", "java/lang/Exception"], w.before args s = true := by
  intro w hw
  rcases hT.2.2.2.2.1 w hw with h | ⟨rfl, h⟩ | ⟨x, rfl, h⟩
  · exact h.of hG args hW
  · obtain ⟨b, hb, -⟩ := hG.nd
    exact va_Nw.use rfl (va_Nw.warmC hW (va_Nw.of rfl (hb _ h)))
  · obtain ⟨b, hb, -⟩ := hG.nd
    exact va_Nw.use rfl (va_Nw.warmD hW (va_Nw.of rfl (hb _ h)))
theorem flags_no {l : Launch} (h : l.flags = flags0) : l.stackTraces = false := by
  unfold Launch.stackTraces
  rw [h]
  decide +kernel
section VT
variable {g : xG} {B : BT} {k n : Nat} {h : xH} {m : Mem} {sz pc : Nat} {ls : List (Option Value)} {st : List Value} {cc : ByteArray} {nL : Nat} {own : String} {ret : Option FieldType} {d mc ms : Nat} {Qr : Option Value → xH → Nat → Prop} {Qx : String → xH → Nat → Prop}
theorem V.throwS (hB : Bd g B cc nL own ret d mc ms) (hX : Bx B []) (hS : Bs g B) {ik is ic : Nat} {E text : String} (hT : TW own ik is ic E text) (d0 : decode cc pc = .ok (.new ik, 3)) (d3 : decode cc (pc + 3) = .ok (.dup, 1)) (d4 : decode cc (pc + 4) = .ok (.ldc is, 2)) (d6 : decode cc (pc + 6) = .ok (.invokespecial ic, 3)) (d9 : decode cc (pc + 9) = .ok (.athrow, 1)) (hd : 1 ≤ d) (hst : (st.map fun v => v.category).sum ≤ 8) (hk : k + 1 ≤ mc) (hn : n + 6 ≤ ms) (hq : ∀ sz', Qx E h sz') : V g B k n (QE g B mc ms Qr Qx) h sz pc ls st := by
  obtain ⟨p, l, e, R, s, mm, args, below, meth, c⟩ := B
  obtain ⟨hx, hb, hml, hown, hr9, hlk, hG, hW, hR, hfl⟩ := hB
  subst hR
  intro H locs A hz hl0
  obtain ⟨sa, hsa⟩ := hT.str hG hW
  obtain ⟨hU, hN⟩ := hG.zq hW hS.1 hS.2
  intro T hTH X
  have hle : s.heap.size ≤ H.size := by rw [← hTH]; exact X.same.2.1
  refine vx_throwS (cc := cc) (A := xFree g) (names := ["java/lang/RuntimeException", "java/lang/Exception"]) hx hb (flags_no hfl) hown hT.2.2.2.2.2.2 (by decide +kernel) (hT.1.of hG args hW) (hT.2.1.of hG args hW) hsa (hT.at hG hW args) hT.2.2.2.2.2.1 hU hN ⟨hle, fun q _ h2 => ?_, hz.2.2.2.2⟩ hl0.1 d0 d3 d4 d6 d9 (by have hX : c.exceptionTable.toList = tableOf [] := hX; intro x hx; rw [hX] at hx; cases hx) (by show 2 + 3 < 40 * d; omega) (by show _ + (13 * (2 + 1) + 43) ≤ 400 * d; omega) (by show k + 1 ≤ mc; exact hk) (by show n + 6 ≤ ms; exact hn) hlk (fun t hal h1 h2 => ⟨h, t.heap.size, hq _, ?_⟩) hz.2.2.2.2 hk hn T hTH X
  · have hq2 : q < g.1.heap.size := Nat.not_le.mp h2
    exact (hz.2.2.1 q hq2).trans (hS.2 q hq2).symm
  · obtain ⟨z1, z2, z3, z4, z5⟩ := hz
    refine ⟨rfl, by omega, fun q hq => (h2 q (by omega)).trans (z3 q hq), fun a x ha => ?_, fun _ h => by cases h⟩
    have hl := (z4 a x ha).2.lt
    exact ⟨(z4 a x ha).1, (z4 a x ha).2.kept (h2 a hl)⟩
theorem V.throwSW (hB : Bd g B cc nL own ret d mc ms) (hX : Bx B []) (hS : Bs g B) {ik is ic : Nat} {E text : String} (hT : TW own ik is ic E text) (d0 : decode cc pc = .ok (.new ik, 3)) (d3 : decode cc (pc + 3) = .ok (.dup, 1)) (d4 : decode cc (pc + 4) = .ok (.ldc_w is, 3)) (d6 : decode cc (pc + 7) = .ok (.invokespecial ic, 3)) (d9 : decode cc (pc + 10) = .ok (.athrow, 1)) (hd : 1 ≤ d) (hst : (st.map fun v => v.category).sum ≤ 8) (hk : k + 1 ≤ mc) (hn : n + 6 ≤ ms) (hq : ∀ sz', Qx E h sz') : V g B k n (QE g B mc ms Qr Qx) h sz pc ls st := by
  obtain ⟨p, l, e, R, s, mm, args, below, meth, c⟩ := B
  obtain ⟨hx, hb, hml, hown, hr9, hlk, hG, hW, hR, hfl⟩ := hB
  subst hR
  intro H locs A hz hl0
  obtain ⟨sa, hsa⟩ := hT.str hG hW
  obtain ⟨hU, hN⟩ := hG.zq hW hS.1 hS.2
  intro T hTH X
  have hle : s.heap.size ≤ H.size := by rw [← hTH]; exact X.same.2.1
  refine vx_throwSW (cc := cc) (A := xFree g) (names := ["java/lang/RuntimeException", "java/lang/Exception"]) hx hb (flags_no hfl) hown hT.2.2.2.2.2.2 (by decide +kernel) (hT.1.of hG args hW) (hT.2.1.of hG args hW) hsa (hT.at hG hW args) hT.2.2.2.2.2.1 hU hN ⟨hle, fun q _ h2 => ?_, hz.2.2.2.2⟩ hl0.1 d0 d3 d4 d6 d9 (by have hX : c.exceptionTable.toList = tableOf [] := hX; intro x hx; rw [hX] at hx; cases hx) (by show 2 + 3 < 40 * d; omega) (by show _ + (13 * (2 + 1) + 43) ≤ 400 * d; omega) (by show k + 1 ≤ mc; exact hk) (by show n + 6 ≤ ms; exact hn) hlk (fun t hal h1 h2 => ⟨h, t.heap.size, hq _, ?_⟩) hz.2.2.2.2 hk hn T hTH X
  · have hq2 : q < g.1.heap.size := Nat.not_le.mp h2
    exact (hz.2.2.1 q hq2).trans (hS.2 q hq2).symm
  · obtain ⟨z1, z2, z3, z4, z5⟩ := hz
    refine ⟨rfl, by omega, fun q hq => (h2 q (by omega)).trans (z3 q hq), fun a x ha => ?_, fun _ h => by cases h⟩
    have hl := (z4 a x ha).2.lt
    exact ⟨(z4 a x ha).1, (z4 a x ha).2.kept (h2 a hl)⟩
end VT
theorem fits_nar {v : Int32} (h : fits .char (.int v) = true) : narrow .char (.int v) = .int v := by
  have h2 : 0 ≤ v ∧ v ≤ 65535 := by simpa [fits] using h
  obtain ⟨j, hj, rfl⟩ := nI_of (Int32.not_lt.mpr h2.1)
  have h3 : j ≤ 65535 := (nI_leI hj (b := 65535) (by decide)).mp h2.2
  show Value.int _ = _
  congr 1
  apply Int32.toBitVec_inj.mp
  apply BitVec.eq_of_toNat_eq
  simp [nI]
  omega
