/-! making objects and arrays; calls of constructors -/
theorem wc_L_16 : WD (.classLink "IceBellsLaw" 16 "IceBells") := WD.at 53 (by decide +kernel) rfl
theorem wib_X9 : WD (.instantiable "IceBells" 11) := WD.at 54 (by decide +kernel) rfl
theorem wmo_X9 : WD (.methodLink "IceBells" 3 Lib.objectInit) := WD.at 58 (by decide +kernel) rfl
theorem wi_obj : WD (.instanceMethod Lib.objectInit) := WD.at 59 (by decide +kernel) rfl
theorem wcd_obj : WD (.code Lib.objectInit ⟨#[0xb1]⟩ 1 none) := WD.at 60 (by decide +kernel) rfl
theorem wc_X9_9 : WD (.classLink "IceBells" 9 "IceBells$Landscape") := WD.at 61 (by decide +kernel) rfl
theorem wib_X6 : WD (.instantiable "IceBells$Landscape" 8) := WD.at 62 (by decide +kernel) rfl
theorem wmo_X6 : WD (.methodLink "IceBells$Landscape" 3 Lib.objectInit) := WD.at 66 (by decide +kernel) rfl
theorem wc_X6_9 : WD (.classLink "IceBells$Landscape" 9 "IceBells$Lake") := WD.at 67 (by decide +kernel) rfl
theorem wao_X5 : Cond.arrayOver (.object "IceBells$Lake") ∈ lw_tbl := List.mem_of_getElem? (i := 68) (by decide +kernel)
theorem wc_X6_33 : WD (.classLink "IceBells$Landscape" 33 "IceBells$Windows") := WD.at 69 (by decide +kernel) rfl
theorem wib_X8 : WD (.instantiable "IceBells$Windows" 3) := WD.at 70 (by decide +kernel) rfl
theorem wmn_X6_35 : Cond.methodLinkNest "IceBells$Landscape" 35 yX8_init "IceBells" ∈ lw_tbl := List.mem_of_getElem? (i := 71) (by decide +kernel)
theorem wmo_X8 : WD (.methodLink "IceBells$Windows" 3 Lib.objectInit) := WD.at 74 (by decide +kernel) rfl
theorem war_int : WD (.arrayClass .int) := WD.at 89 (by decide +kernel) rfl
theorem wc_X6_40 : WD (.classLink "IceBells$Landscape" 40 "IceBells$Peals") := WD.at 90 (by decide +kernel) rfl
theorem wib_X7 : WD (.instantiable "IceBells$Peals" 6) := WD.at 91 (by decide +kernel) rfl
theorem wmn_X6_42 : Cond.methodLinkNest "IceBells$Landscape" 42 yX7_init "IceBells" ∈ lw_tbl := List.mem_of_getElem? (i := 92) (by decide +kernel)
theorem wmo_X7 : WD (.methodLink "IceBells$Peals" 3 Lib.objectInit) := WD.at 95 (by decide +kernel) rfl
theorem war_char : WD (.arrayClass .char) := WD.at 120 (by decide +kernel) rfl
theorem wib_X5 : WD (.instantiable "IceBells$Lake" 6) := WD.at 121 (by decide +kernel) rfl
theorem wmn_X6_47 : Cond.methodLinkNest "IceBells$Landscape" 47 yX5_init "IceBells" ∈ lw_tbl := List.mem_of_getElem? (i := 122) (by decide +kernel)
theorem wmo_X5 : WD (.methodLink "IceBells$Lake" 3 Lib.objectInit) := WD.at 125 (by decide +kernel) rfl
theorem wc_X9_26 : WD (.classLink "IceBells" 26 "IceBells$History") := WD.at 188 (by decide +kernel) rfl
theorem wib_X3 : WD (.instantiable "IceBells$History" 3) := WD.at 189 (by decide +kernel) rfl
theorem wmo_X3 : WD (.methodLink "IceBells$History" 3 Lib.objectInit) := WD.at 193 (by decide +kernel) rfl
theorem wc_X3_9 : WD (.classLink "IceBells$History" 9 "IceBells$Landscape") := WD.at 194 (by decide +kernel) rfl
theorem wao_X6 : Cond.arrayOver (.object "IceBells$Landscape") ∈ lw_tbl := List.mem_of_getElem? (i := 195) (by decide +kernel)
theorem wc_X9_33 : WD (.classLink "IceBells" 33 "IceBells$CommandText") := WD.at 207 (by decide +kernel) rfl
theorem wib_X2 : WD (.instantiable "IceBells$CommandText" 5) := WD.at 208 (by decide +kernel) rfl
theorem wmo_X2 : WD (.methodLink "IceBells$CommandText" 3 Lib.objectInit) := WD.at 212 (by decide +kernel) rfl
theorem wc_X2_22 : WD (.classLink "IceBells$CommandText" 22 "IceBells$Command") := WD.at 213 (by decide +kernel) rfl
theorem wao_X1 : Cond.arrayOver (.object "IceBells$Command") ∈ lw_tbl := List.mem_of_getElem? (i := 214) (by decide +kernel)
theorem wib_X1 : WD (.instantiable "IceBells$Command" 3) := WD.at 215 (by decide +kernel) rfl
theorem wmn_X2_31 : Cond.methodLinkNest "IceBells$CommandText" 31 yX1_init "IceBells" ∈ lw_tbl := List.mem_of_getElem? (i := 216) (by decide +kernel)
theorem wmo_X1 : WD (.methodLink "IceBells$Command" 3 Lib.objectInit) := WD.at 219 (by decide +kernel) rfl
theorem wc_X9_51 : WD (.classLink "IceBells" 51 "java/lang/StringBuilder") := WD.at 253 (by decide +kernel) rfl
theorem wib_J4 : WD (.instantiable "java/lang/StringBuilder" 4) := WD.at 254 (by decide +kernel) rfl
theorem wmo_J5 : WD (.methodLink "java/lang/AbstractStringBuilder" 3 Lib.objectInit) := WD.at 261 (by decide +kernel) rfl
theorem war_byte : WD (.arrayClass .byte) := WD.at 285 (by decide +kernel) rfl
theorem wc_L_49 : WD (.classLink "IceBellsLaw" 49 "java/lang/IndexOutOfBoundsException") := WD.at 338 (by decide +kernel) rfl
theorem wib_Jx00060 : WD (.instantiable "java/lang/ArrayIndexOutOfBoundsException" 6) := WD.at 339 (by decide +kernel) rfl
theorem wib_J0 : WD (.instantiable "java/lang/String" 4) := WD.at 413 (by decide +kernel) rfl
theorem wc_L_51 : WD (.classLink "IceBellsLaw" 51 "java/lang/IllegalArgumentException") := WD.at 418 (by decide +kernel) rfl
theorem wc_L_53 : WD (.classLink "IceBellsLaw" 53 "java/lang/IllegalStateException") := WD.at 419 (by decide +kernel) rfl
theorem wc_L_55 : WD (.classLink "IceBellsLaw" 55 "java/lang/UnsupportedOperationException") := WD.at 420 (by decide +kernel) rfl
theorem wc_X9_315 : WD (.classLink "IceBells" 315 "java/lang/IndexOutOfBoundsException") := WD.at 435 (by decide +kernel) rfl
theorem wc_X9_254 : WD (.classLink "IceBells" 254 "java/lang/IllegalArgumentException") := WD.at 448 (by decide +kernel) rfl
theorem wc_X9_263 : WD (.classLink "IceBells" 263 "java/lang/IllegalStateException") := WD.at 464 (by decide +kernel) rfl
theorem wc_X9_370 : WD (.classLink "IceBells" 370 "java/lang/UnsupportedOperationException") := WD.at 480 (by decide +kernel) rfl
theorem wc_L_98 : WD (.classLink "IceBellsLaw" 98 "java/util/NoSuchElementException") := WD.at 839 (by decide +kernel) rfl
theorem wc_X9_124 : WD (.classLink "IceBells" 124 "java/util/NoSuchElementException") := WD.at 871 (by decide +kernel) rfl
theorem wc_L_163 : WD (.classLink "IceBellsLaw" 163 "java/lang/StringBuilder") := WD.at 979 (by decide +kernel) rfl
theorem wc_J7_311 : WD (.classLink "java/util/Arrays" 311 "[B") := WD.at 1018 (by decide +kernel) rfl
theorem wc_J4_18 : WD (.classLink "java/lang/StringBuilder" 18 "java/lang/String") := WD.at 1108 (by decide +kernel) rfl
theorem wmo_J0 : WD (.methodLink "java/lang/String" 1 Lib.objectInit) := WD.at 1115 (by decide +kernel) rfl
theorem wc_J7_43 : WD (.classLink "java/util/Arrays" 43 "java/lang/IllegalArgumentException") := WD.at 1139 (by decide +kernel) rfl
theorem wc_J7_45 : WD (.classLink "java/util/Arrays" 45 "java/lang/StringBuilder") := WD.at 1140 (by decide +kernel) rfl
theorem wc_X9_323 : WD (.classLink "IceBells" 323 "java/lang/ArithmeticException") := WD.at 1183 (by decide +kernel) rfl
theorem wc_J5_129 : WD (.classLink "java/lang/AbstractStringBuilder" 129 "java/lang/StringIndexOutOfBoundsException") := WD.at 1214 (by decide +kernel) rfl
theorem wib_Jx7c733 : WD (.instantiable "java/lang/StringIndexOutOfBoundsException" 6) := WD.at 1215 (by decide +kernel) rfl
theorem wc_Jx7c733_10 : WD (.classLink "java/lang/StringIndexOutOfBoundsException" 10 "java/lang/StringBuilder") := WD.at 1219 (by decide +kernel) rfl
theorem wc_J7_68 : WD (.classLink "java/util/Arrays" 68 "java/lang/ArrayIndexOutOfBoundsException") := WD.at 1245 (by decide +kernel) rfl
theorem wc_Jx00060_10 : WD (.classLink "java/lang/ArrayIndexOutOfBoundsException" 10 "java/lang/StringBuilder") := WD.at 1249 (by decide +kernel) rfl
section VA
variable {g : xG} {B : BT} {k n0 : Nat} {Q : State → Prop} {h : xH} {sz pc : Nat} {ls : List (Option Value)} {st : List Value} {cc : ByteArray} {nL : Nat} {own : String} {ret : Option FieldType} {d mc ms : Nat}
/-- the picture with one cell more -/
def hx (h : xH) (a : Nat) (e : va_E) : xH := fun q => if q = a then some e else h q
theorem hx_at (h : xH) (a : Nat) (e : va_E) : hx h a e a = some e := if_pos rfl
theorem hx_ne (h : xH) {a q : Nat} (e : va_E) (hq : q ≠ a) : hx h a e q = h q := if_neg hq
theorem V.newarr (hB : Bd g B cc nL own ret d mc ms) (t : Nat) {atype : ArrayType} {ty : FieldType} {n : Int32} {N' : Nat} {a0 : vp_A} (harr : WD (.arrayClass (newarray.typeOf atype))) (hty : newarray.typeOf atype = ty) (ht : (xtys g)[t]? = some (g.2.2.1 t, ty)) (ha : ∀ cA : ClassId, vp_cell cA a0 = arrV cA N' (fun _ => defaultValue ty)) (hn : ¬ n < 0) (hN : n.toNatClampNeg = N') (hbytes : N' * componentBytes ty ≤ 536870912) (hcells : k + 1 ≤ mc) (hslots : n0 + N' ≤ ms) (hd : decode cc pc = .ok (.newarray atype, 2))
    (kk : V g B (k + 1) (n0 + N') Q (hx h sz (.inl (g.2.2.1 t, a0))) (sz + 1) (pc + 2) ls (.ref sz :: st)) : V g B k n0 Q h sz pc ls (.int n :: st) := by
  subst hty
  obtain ⟨p, l, e, R, s, m, args, below, meth, c⟩ := B
  obtain ⟨hx1, hb, hml, hown, hr, hlk, hG, hW, hR, hfl⟩ := hB
  subst hR
  intro H locs A hz hl0
  refine va_newaK hx1 hb (harr.of hG args hW) rfl hd rfl hn hN hbytes hcells hslots hz.1 fun H1 cA e1 z1 o1 hAr hNm => ?_
  have hRA := ((hG.kn hW).2 t _ ht).2
  have hcA : g.2.2.1 t = cA := by
    have h2 : s.vm.findClass ("[" ++ (newarray.typeOf atype).toString) = some (g.2.2.1 t) := by cases atype <;> exact hRA
    exact Option.some.inj (h2.symm.trans hNm)
  rw [hcA] at kk
  refine kk H1 locs A (hz.new z1 o1 ?_ (hx_at _ _ _) (fun q hq => hx_ne _ _ hq)) hl0
  show H1[sz]? = some (vp_cell _ _)
  rw [ha]
  exact e1
theorem V.newref (hB : Bd g B cc nL own ret d mc ms) (t : Nat) {C : String} {idx : Nat} {n : Int32} {N' : Nat} (hcl : WD (.classLink own idx C)) (hao : Cond.arrayOver (.object C) ∈ lw_tbl) (ht : (xtys g)[t]? = some (g.2.2.1 t, .object C)) (hn : ¬ n < 0) (hN : n.toNatClampNeg = N') (hbytes : N' * 4 ≤ 536870912) (hcells : k + 1 ≤ mc) (hslots : n0 + N' ≤ ms) (hd : decode cc pc = .ok (.anewarray idx, 3))
    (kk : V g B (k + 1) (n0 + N') Q (hx h sz (.inl (g.2.2.1 t, N', .inr (.inr (.inr (.inr (fun _ => none))))))) (sz + 1) (pc + 3) ls (.ref sz :: st)) : V g B k n0 Q h sz pc ls (.int n :: st) := by
  subst hN
  obtain ⟨p, l, e, R, s, m, args, below, meth, c⟩ := B
  obtain ⟨hx1, hb, hml, hown, hr, hlk, hG, hW, hR, hfl⟩ := hB
  subst hR
  intro H locs A hz hl0
  obtain ⟨b, hbw, -⟩ := hG.nd
  have hover : va_AO C s := va_AO.moved hW.alike (va_AO.of (hbw _ hao))
  refine W.anew hx1 hb hown (hcl.of hG args hW) (va_AO.use hover) rfl hd rfl hn hbytes hcells hslots fun cA kA comp f1 f2 f3 f4 => ?_
  generalize hH1 : H.push ({ cls := cA, slots := Array.replicate n.toNatClampNeg .null, vm := .none } : Cell) = H1
  have z1 : H1.size = H.size + 1 := by rw [← hH1, Array.size_push]
  have e1 : H1[H.size]? = some (arrV cA n.toNatClampNeg (fun _ => .null)) := by rw [← hH1, Array.getElem?_push_size, ← arrV_new]
  have o1 : ∀ q : Nat, q < H.size → H1[q]? = H[q]? := fun q hq => by rw [← hH1, Array.getElem?_push, if_neg (Nat.ne_of_lt hq)]
  obtain ⟨kA2, comp2, -, -, -, hNm⟩ := ((hG.kn hW).2 t _ ht).2
  have hcA : g.2.2.1 t = cA := Option.some.inj (hNm.symm.trans f1)
  rw [hcA] at kk
  have hzs := hz.1
  subst hzs
  refine kk H1 locs A (hz.new z1 o1 ?_ (hx_at _ _ _) (fun q hq => hx_ne _ _ hq)) hl0
  show H1[H.size]? = some (vp_cell _ _)
  rw [vp_cell_q]
  exact e1
theorem V.newo (hB : Bd g B cc nL own ret d mc ms) {ci N idx : Nat} {C : String} {T : u_T} {ty : Nat → FieldType} (hF : FK ci C T N ty) (hcl : WD (.classLink own idx C)) (hins : WD (.instantiable C N)) (hini : WD (.initialized C)) {fs : List Value} (hfs : ∀ j, j < N → defaultValue (ty j) = vp_V fs j) (hcells : k + 1 ≤ mc) (hslots : n0 + N ≤ ms) (hd : decode cc pc = .ok (.new idx, 3))
    (kk : V g B (k + 1) (n0 + N) Q (hx h sz (.inr (ci, fs))) (sz + 1) (pc + 3) ls (.ref sz :: st)) : V g B k n0 Q h sz pc ls st := by
  obtain ⟨p, l, e, R, s, m, args, below, meth, c⟩ := B
  obtain ⟨hx1, hb, hml, hown, hr, hlk, hG, hW, hR, hfl⟩ := hB
  subst hR
  intro H locs A hz hl0
  have hts := hF.hts hG hW args
  obtain ⟨hc, -, hty, hnm⟩ := hF
  have hKn := (hG.kn hW).1 ci _ hc
  refine W.newcK hx1 hb hown (hcl.of hG args hW) (hins.of hG args hW) (hini.of hG args hW) rfl hd hcells hslots hKn.2.1 hz.1 fun H1 kC hkC e1 z1 o1 => ?_
  exact kk H1 locs A (hz.new (e := .inr (ci, fs)) z1 o1 ⟨_, hc, (u_born ty hts (fun _ h => h) hKn hkC e1 hty).to hfs⟩ (hx_at _ _ _) (fun q hq => hx_ne _ _ hq)) hl0
theorem V.aast (hB : Bd g B cc nL own ret d mc ms) {a v t ci N n : Nat} {C : String} {T : u_T} {cA : ClassId} {f : Nat → Option Nat} {vs : List Value} {i : Int32} (ht : (xtys g)[t]? = some (cA, .object C)) (he : h a = some (.inl (cA, n, .inr (.inr (.inr (.inr f)))))) (hv : h v = some (.inr (ci, vs))) (hci : xcl[ci]? = some (C, T, N)) (hin : vp_in i n) (hd : decode cc pc = .ok (.aastore, 1)) {h' : xH} (h1 : h' a = some (.inl (cA, n, .inr (.inr (.inr (.inr (va_up f i.toNatClampNeg (some v)))))))) (h2 : ∀ q, q ≠ a → h' q = h q) (kk : V g B k n0 Q h' sz (pc + 1) ls st) : V g B k n0 Q h sz pc ls (.ref v :: .int i :: .ref a :: st) := by
  obtain ⟨p, l, e, R, s, m, args, below, meth, c⟩ := B
  obtain ⟨hx1, hb, hml, hown, hr, hlk, hG, hW, hR, hfl⟩ := hB
  intro H locs A hz hl0
  have hK := hG.kn hW
  have hlt : i.toNatClampNeg < n := Nat.not_le.mp fun q => hin (Or.inr q)
  have h0 : ¬ i < 0 := fun q => hin (Or.inl q)
  obtain ⟨ha, hat⟩ := hz.2.2.2.1 a _ he
  obtain ⟨r', hr', cellV, g1, g2, g3, -⟩ := (hz.2.2.2.1 v _ hv).2
  have hcls := (hK.1 ci _ hci).2
  obtain ⟨kA, comp, k1, k2, k3, -⟩ := (hK.2 t _ ht).2
  have hcomp : comp = g.2.1.1 ci := Option.some.inj (k3.symm.trans hcls.1)
  subst hcomp
  obtain ⟨kC, hkC, -⟩ := hcls.2
  refine W.aast hx1 hb (show H[a]? = some (vp_cell _ _) from hat) (fun q h => by cases h) (fun h => by cases h) k1 k2 rfl hkC ⟨h0, by show _ < (arrV _ _ _).slots.size; rw [arrV_size]; exact hlt⟩ g1 (fun q h => by rw [g3] at h; cases h) (by rw [g2]; exact hkC) (by rw [g2]; exact va_assign hcls) rfl rfl hd fun H1 e z oq => ?_
  refine kk H1 _ A (hz.put z oq ha ?_ h1 h2) hl0
  show H1[a]? = some (vp_cell _ _)
  rw [e]
  rw [vp_cell_q, vp_cell_q, arrV_store]
  congr 2
  funext q
  by_cases hq : q = i.toNatClampNeg
  · subst hq
    simp [updV, va_up, va_rf]
  · simp [updV, va_up, hq]
theorem V.objInit (hB : Bd g B cc nL own ret d mc ms) {a idx : Nat} (hl : WD (.methodLink own idx Lib.objectInit)) (hd : decode cc pc = .ok (.invokespecial idx, 3)) (hd1 : 1 ≤ d) (hst : (st.map fun v => v.category).sum ≤ 8) (kk : V g B k n0 Q h sz (pc + 3) ls st) : V g B k n0 Q h sz pc ls (.ref a :: st) := by
  obtain ⟨p, l, e, R, s, m, args, below, meth, c⟩ := B
  obtain ⟨hx1, hb, hml, hown, hr, hlk, hG, hW, hR, hfl⟩ := hB
  subst hR
  intro H locs A hz hl0
  refine W.objInit hx1 hb hown (hl.of hG args hW) (wi_obj.of hG args hW) (wcd_obj.of hG args hW) rfl (hl0.1) rfl hd (show 1 ≤ 40 * d by omega) (Nat.le_trans (Nat.add_le_add_right (lv_room hst) 12) (show 8 + 12 ≤ 400 * d by omega)) (kk H locs A hz hl0)
/-- invokespecial of a constructor -/
theorem V.callI (hB : Bd g B cc nL own ret d mc ms) {y : MethodName} {bytes : ByteArray} {maxL np idx d' mc' ms' a : Nat} {av : List Value} {Qr' : Option Value → xH → Nat → Prop} {Qx' : String → xH → Nat → Prop} {st0 : List Value} (hC : CW y bytes maxL none np) (hl : WD (.methodLink own idx y)) (hni : y.name = "<init>") (hin : WD (.instanceMethod y)) (hd : decode cc pc = .ok (.invokespecial idx, 3)) (hd' : d' < d) (hL : maxL ≤ 300)
    (hM : Ct g y (.code y bytes maxL none) d' mc' ms' (.ref a :: av) h sz Qr' Qx') (hno : ∀ E h' sz', ¬ Qx' E h' sz') (hnp : av.length = np) (hst : (st.map fun v => v.category).sum ≤ 8) (hc : k + mc' ≤ mc) (hs : n0 + ms' ≤ ms)
    (kk : ∀ (v : Option Value) (h' : xH) (sz' : Nat), Qr' v h' sz' → V g B (k + mc') (n0 + ms') Q h' sz' (pc + 3) ls (v.toList ++ st)) (hst0 : st0 = av.reverse ++ .ref a :: st) : V g B k n0 Q h sz pc ls st0 := by
  refine V.ofRunN (av := .ref a :: av) hB (fun p l e R s m args below meth c H locs A hBe hz hl0 => ?_) kk
  subst hBe
  obtain ⟨hx1, hb, hml, hown, hr9, hlk, hG, hW, hR, hfl⟩ := hB
  subst hR
  exact va_runI (As := av) (rest := st) (n := np) ⟨hx1, hb, hml, hown, fun w hw => (absurd hw (List.not_mem_nil (a := w)))⟩ (hM.met hno hfl) ⟨hC.callB hG hW hl (xRm_le hd' hL), hni, hin.of hG args hW⟩ ⟨xPc.blind, fun U hU hWU => ⟨rfl, State.WarmedH.trans hW hWU, by rw [hU]; exact hz.locs (fun _ h => by cases h)⟩⟩ rfl hnp (hl0.1.trans hml) hst0 (lv_room hst) hd ⟨hc, hs⟩
/-- the same across a nest -/
theorem V.callIN (hB : Bd g B cc nL own ret d mc ms) {y : MethodName} {host : String} {bytes : ByteArray} {maxL np idx d' mc' ms' a : Nat} {av : List Value} {Qr' : Option Value → xH → Nat → Prop} {Qx' : String → xH → Nat → Prop} {st0 : List Value} (hC : CW y bytes maxL none np) (hl : Cond.methodLinkNest own idx y host ∈ lw_tbl) (hni : y.name = "<init>") (hin : WD (.instanceMethod y)) (hd : decode cc pc = .ok (.invokespecial idx, 3)) (hd' : d' < d) (hL : maxL ≤ 300)
    (hM : Ct g y (.code y bytes maxL none) d' mc' ms' (.ref a :: av) h sz Qr' Qx') (hno : ∀ E h' sz', ¬ Qx' E h' sz') (hnp : av.length = np) (hst : (st.map fun v => v.category).sum ≤ 8) (hc : k + mc' ≤ mc) (hs : n0 + ms' ≤ ms)
    (kk : ∀ (v : Option Value) (h' : xH) (sz' : Nat), Qr' v h' sz' → V g B (k + mc') (n0 + ms') Q h' sz' (pc + 3) ls (v.toList ++ st)) (hst0 : st0 = av.reverse ++ .ref a :: st) : V g B k n0 Q h sz pc ls st0 := by
  refine V.ofRunN (av := .ref a :: av) hB (fun p l e R s m args below meth c H locs A hBe hz hl0 => ?_) kk
  subst hBe
  obtain ⟨hx1, hb, hml, hown, hr9, hlk, hG, hW, hR, hfl⟩ := hB
  subst hR
  obtain ⟨b, hbw, -⟩ := hG.nd
  refine va_runIN (As := av) (rest := st) (n := np) ⟨hx1, hb, hml, hown, fun w hw => (absurd hw (List.not_mem_nil (a := w)))⟩ (hM.met hno hfl) ⟨⟨⟨rfl, rfl, (xRm_le hd' hL).1, (xRm_le hd' hL).2, fun w hw a' U hU => ?_, List.mem_cons_self⟩, hC.1.of hG args hW, hC.2.1.of hG args hW, ⟨hC.2.2.1, hC.2.2.2.1⟩, fun sig hs9 => ?_, va_Nw.use rfl (va_Nw.warmM hW (va_Nw.of rfl (hbw _ hl)))⟩, hni, hin.of hG args hW⟩ ⟨xPc.blind, fun U hU hWU => ⟨rfl, State.WarmedH.trans hW hWU, by rw [hU]; exact hz.locs (fun _ h => by cases h)⟩⟩ rfl hnp (hl0.1.trans hml) hst0 (lv_room hst) hd ⟨hc, hs⟩
  · have : w = .code y bytes maxL none := by simpa using hw
    subst this
    exact hC.1.of hG a' (State.WarmedH.trans hW hU)
  · have h2 := hC.2.2.2.2
    rw [hs9] at h2
    exact (Option.some.inj h2).symm
end VA
