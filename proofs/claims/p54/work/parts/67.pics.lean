/-! texts of the law: pictures with further cells, appends over any picture -/
def gx (g : xG) (E : xH) (b : Nat) : xG := (g.1, g.2.1, g.2.2.1, g.2.2.2.1, b, E)
section PX9
variable {g : xG} {B : BT} {k n0 : Nat} {Q : State → Prop} {h h0 : xH} {sz pc : Nat} {ls : List (Option Value)} {st : List Value} {cc : ByteArray} {nL : Nat} {own : String} {ret : Option FieldType} {d mc ms : Nat}
theorem Bd.gx {E : xH} {b : Nat} (hB : Bd g B cc nL own ret d mc ms) : Bd (gx g E b) B cc nL own ret d mc ms := by
  obtain ⟨p, l, e, R, s, m, args, below, meth, c⟩ := B
  exact hB
theorem V.toG {E : xH} {b : Nat} (kk : V (gx g E b) B k n0 Q h sz pc ls st) : V g B k n0 Q h sz pc ls st := by
  obtain ⟨p, l, e, R, s, m, args, below, meth, c⟩ := B
  exact kk
theorem V.ug {E : xH} {b : Nat} (kk : V g B k n0 Q h sz pc ls st) : V (gx g E b) B k n0 Q h sz pc ls st := by
  obtain ⟨p, l, e, R, s, m, args, below, meth, c⟩ := B
  exact kk
theorem V.eqh {h' : xH} (e : h = h') (kk : V g B k n0 Q h' sz pc ls st) : V g B k n0 Q h sz pc ls st := e ▸ kk
theorem V.ldcS (hB : Bd g B cc nL own ret d mc ms) {idx q : Nat} {tx : String} (hZ : vk_R own idx tx q g.1) (hd : decode cc pc = .ok (.ldc idx, 2)) (kk : V g B k n0 Q h sz (pc + 2) ls (.ref q :: st)) : V g B k n0 Q h sz pc ls st := by
  obtain ⟨p, l, e, R, s, m, args, below, meth, c⟩ := B
  obtain ⟨hx1, hb, hml, hown, hr, hlk, hG, hW, hR, hfl⟩ := hB
  intro H locs A hz hl0
  exact va_ldcS hx1 hb hown (vk_R.warm hW hZ) hd (kk H locs A hz hl0)
theorem lst_fit : ∀ i, i < 4 → ∀ j, j < (lst i).length → fits .byte (.int ((lst i).getD j 0)) = true := by decide
/-- the law's texts of the start -/
theorem GE.sx {z : xE} (hE : GE g z) {i : Nat} (hi : i < 4) : SX g h (z (10 + i)) (z (20 + i)) (lst i).length (lst i) := by
  obtain ⟨h1, h2, h3, h4, h5, h6⟩ := hE.str hi
  exact ⟨rfl, h5, fun j hj => ⟨lst_fit i hi j hj, h6 j hj⟩, Or.inl ⟨h1, h2, h3, h4⟩⟩
/-- a row's cells behind its end don't count -/
theorem V.row {w n : Nat} {F F' : Nat → Int32} {c : ClassId} (hF : ∀ j, j < n → F j = F' j) (kk : V g B k n0 Q (hx h w (.inl (c, n, .inl F'))) sz pc ls st) : V g B k n0 Q (hx h w (.inl (c, n, .inl F))) sz pc ls st := by
  have e : vp_cell c (n, .inl F) = vp_cell c (n, .inl F') := by
    rw [vp_cell_i, vp_cell_i]
    unfold arrV
    rw [show (fun j : Fin n => Value.int (F j.val)) = (fun j => Value.int (F' j.val)) from funext (fun j => by rw [hF j.val j.isLt])]
  obtain ⟨p, l, e9, R, s, m, args, below, meth, c9⟩ := B
  intro H locs A hz hl
  refine kk H locs A ⟨hz.1, hz.2.1, hz.2.2.1, fun a e2 ha => ?_, hz.2.2.2.2⟩ hl
  by_cases h1 : a = w
  · subst h1
    rw [hx_at] at ha
    cases ha
    obtain ⟨b1, b2⟩ := hz.2.2.2.1 a _ (hx_at _ _ _)
    refine ⟨b1, ?_⟩
    show H[a]? = some (vp_cell c (n, .inl F'))
    rw [← e]
    exact b2
  · rw [hx_ne _ _ h1] at ha
    exact hz.2.2.2.1 a e2 ((hx_ne _ _ h1).trans ha)

/-- a builder at b, its row at v, over a picture that has neither -/
def HB (g : xG) (h0 : xH) (b v n cap : Nat) (f : Nat → Int32) : Prop := h0 b = none ∧ h0 v = none ∧ b ≠ v ∧ g.1.heap.size ≤ b ∧ g.1.heap.size ≤ v ∧ n ≤ cap ∧ cap ≤ 200 ∧ (∀ j, j < cap → fits .byte (.int (f j)) = true) ∧ ∀ q, q < g.1.heap.size → h0 q = none
def hbx (g : xG) (h0 : xH) (b v n cap : Nat) (f : Nat → Int32) (x2 : Int32) : xH := hx (hx h0 b (.inr (9, [.ref v, .int 0, .int x2, .int (nI n)]))) v (.inl (g.2.2.1 4, cap, .inl f))
def mBx (g : xG) (v n cap : Nat) (f : Nat → Int32) (x2 : Int32) : Mem := (fun k => if k = 360 then (fun o => if o = 2 then x2 else nI n) else f, v - g.1.heap.size, cap)
theorem hbx_sb {b v n cap : Nat} {f : Nat → Int32} {x2 : Int32} (hH : HB g h0 b v n cap f) : SBH g (hbx g h0 b v n cap f x2) b v n cap f := by
  obtain ⟨a1, a2, a3, a4, a5, a6, a7, a8, a9⟩ := hH
  exact ⟨⟨x2, (hx_ne _ _ a3).trans (hx_at _ _ _)⟩, hx_at _ _ _, a6, a7, a8⟩
theorem pcq_hbx {b v n cap : Nat} {f : Nat → Int32} {x2 : Int32} (hH : HB g h0 b v n cap f) : hbx g h0 b v n cap f x2 = pcq (gx g h0 b) (mBx g v n cap f x2) := by
  obtain ⟨a1, a2, a3, a4, a5, a6, a7, a8, a9⟩ := hH
  have ev : ad (gx g h0 b) (mBx g v n cap f x2).2.1 = v := by
    show g.1.heap.size + (v - g.1.heap.size) = v
    omega
  funext q
  unfold pcq
  rw [ev]
  show hbx g h0 b v n cap f x2 q = if q = b then some (.inr (9, [.ref v, .int 0, .int x2, .int (nI n)])) else if q < g.1.heap.size then none else if q = v then some (.inl (g.2.2.1 4, cap, .inl f)) else h0 q
  unfold hbx hx
  by_cases e1 : q = b
  · rw [if_pos e1, if_pos e1, if_neg (fun z => a3 (e1.symm.trans z))]
  · rw [if_neg e1, if_neg e1]
    by_cases e2 : q = v
    · rw [if_pos e2, if_neg (by omega)]
    · rw [if_neg e2]
      by_cases e3 : q < g.1.heap.size
      · rw [if_pos e3]; exact a9 q e3
      · rw [if_neg e3]
theorem hbx_sq {b v n cap : Nat} {f : Nat → Int32} {x2 : Int32} (hH : HB g h0 b v n cap f) : SQ (gx g h0 b) (mBx g v n cap f x2) n ∧ LG (gx g h0 b) := by
  obtain ⟨a1, a2, a3, a4, a5, a6, a7, a8, a9⟩ := hH
  have ev : ad (gx g h0 b) (mBx g v n cap f x2).2.1 = v := by
    show g.1.heap.size + (v - g.1.heap.size) = v
    omega
  exact ⟨⟨rfl, a6, a7, by rw [ev]; exact fun z => a3 z.symm, a8, by rw [ev]; exact a2⟩, a1, a9⟩
theorem pcq_back {b n : Nat} {m2 : Mem} (h1 : h0 b = none) (h4 : g.1.heap.size ≤ b) (h9 : ∀ q, q < g.1.heap.size → h0 q = none) (hq : SQ (gx g h0 b) m2 n) : pcq (gx g h0 b) m2 = hbx g h0 b (ad g m2.2.1) n m2.2.2 (m2.1 361) (m2.1 360 2) ∧ HB g h0 b (ad g m2.2.1) n m2.2.2 (m2.1 361) := by
  obtain ⟨q1, q2, q3, q4, q5, q6⟩ := hq
  have hH : HB g h0 b (ad g m2.2.1) n m2.2.2 (m2.1 361) := ⟨h1, q6, fun z => q4 z.symm, h4, by unfold ad; omega, q2, q3, q5, h9⟩
  refine ⟨?_, hH⟩
  funext q
  unfold pcq
  show (if q = b then some (.inr (9, [.ref (ad g m2.2.1), .int 0, .int (m2.1 360 2), .int (m2.1 360 3)])) else if q < g.1.heap.size then none else if q = ad g m2.2.1 then some (.inl (g.2.2.1 4, m2.2.2, .inl (m2.1 361))) else h0 q) = hbx g h0 b (ad g m2.2.1) n m2.2.2 (m2.1 361) (m2.1 360 2) q
  unfold hbx hx
  rw [q1]
  by_cases e1 : q = b
  · rw [if_pos e1, if_pos e1, if_neg (fun z => hH.2.2.1 (e1.symm.trans z))]
  · rw [if_neg e1, if_neg e1]
    by_cases e2 : q = ad g m2.2.1
    · rw [if_pos e2, if_neg (by unfold ad at e2; omega)]
    · rw [if_neg e2]
      by_cases e3 : q < g.1.heap.size
      · rw [if_pos e3]; exact (h9 q e3).symm
      · rw [if_neg e3]
/-- the row's bytes are the text's -/
def TZ (f : Nat → Int32) (t : List Int32) : Prop := ∀ j, j < t.length → f j = t.getD j 0
theorem TZ.app {f f2 : Nat → Int32} {t x : List Int32} (hT : TZ f t) (h2 : ∀ j, j < t.length → f2 j = f j) (h3 : ∀ j, j < x.length → f2 (t.length + j) = x.getD j 0) : TZ f2 (t ++ x) := by
  intro j hj
  rw [List.length_append] at hj
  by_cases e : j < t.length
  · rw [h2 j e, hT j e]; simp [List.getD, List.getElem?_append_left e]
  · obtain ⟨y, rfl⟩ : ∃ y, j = t.length + y := ⟨j - t.length, by omega⟩
    rw [h3 y (by omega)]; simp [List.getD, List.getElem?_append_right]
set_option maxRecDepth 100000 in
set_option maxHeartbeats 4000000 in
theorem V.appS (hG : GK g) {z : xE} (hE : GE g z) (hB : Bd g B cc nL own ret d mc ms) {idx : Nat} (hl : WD (.methodLink own idx yJ4_append_15ec4)) (hd : decode cc pc = .ok (.invokevirtual idx, 3)) {b v cap a w : Nat} {f : Nat → Int32} {x2 : Int32} {t byt : List Int32} (hH : HB g h0 b v t.length cap f) (hT : TZ f t) (hn : t.length + byt.length ≤ 90) (hs : SX g h0 a w byt.length byt) (hd' : 6 < d) (hst : (st.map fun v => v.category).sum ≤ 8) (hc : k + 1 ≤ mc) (hsl : n0 + 200 ≤ ms)
    (kk : ∀ (v' cap' : Nat) (f' : Nat → Int32) (x2' : Int32) (sz' : Nat), HB g h0 b v' (t ++ byt).length cap' f' → TZ f' (t ++ byt) → V g B (k + 1) (n0 + 200) Q (hbx g h0 b v' (t ++ byt).length cap' f' x2') sz' (pc + 3) ls (.ref b :: st)) : V g B k n0 Q (hbx g h0 b v t.length cap f x2) sz pc ls (.ref a :: .ref b :: st) := by
  refine V.eqh (pcq_hbx hH) (V.toG (E := h0) (b := b) ?_)
  obtain ⟨hSQ, hLG⟩ := hbx_sq (x2 := x2) hH
  refine V.cvq (g := gx g h0 b) (a := b) (av := [.ref a]) hB.gx cw_J4_append_15ec4 hl wi_J4_append_15ec4 ws_J4_append_15ec4 hd (q_J4_append_15ec4 (g := gx g h0 b) hG hE hLG hSQ hn hs) (hq_SB (g := gx g h0 b) _) fk_SB rfl hd' (by decide) rfl hst hc hsl (fun _ _ _ hf => hf.elim) (fun v9 m2 sz2 h2 => ?_) rfl
  obtain ⟨rfl, hq, hf, hby⟩ := h2
  rw [← List.length_append] at hq
  obtain ⟨e, hH'⟩ := pcq_back hH.1 hH.2.2.2.1 hH.2.2.2.2.2.2.2.2 hq
  exact V.eqh e (V.ug (kk _ _ _ _ _ hH' (hT.app (fun j hj => hf.2 j hj) hby)))
set_option maxRecDepth 100000 in
set_option maxHeartbeats 4000000 in
theorem V.appI (hG : GK g) {z : xE} (hE : GE g z) (hB : Bd g B cc nL own ret d mc ms) {idx : Nat} (hl : WD (.methodLink own idx yJ4_append_bf812)) (hd : decode cc pc = .ok (.invokevirtual idx, 3)) {b v cap a : Nat} {y : Int32} {f : Nat → Int32} {x2 : Int32} {t : List Int32} (hH : HB g h0 b v t.length cap f) (hT : TZ f t) (hn : t.length < 80) (ha : a ≤ 99) (hv : n99 a y) (hd' : 6 < d) (hst : (st.map fun v => v.category).sum ≤ 8) (hc : k + 1 ≤ mc) (hsl : n0 + 200 ≤ ms)
    (kk : ∀ (v' cap' : Nat) (f' : Nat → Int32) (x2' : Int32) (sz' : Nat), HB g h0 b v' (t ++ txtI y).length cap' f' → TZ f' (t ++ txtI y) → V g B (k + 1) (n0 + 200) Q (hbx g h0 b v' (t ++ txtI y).length cap' f' x2') sz' (pc + 3) ls (.ref b :: st)) : V g B k n0 Q (hbx g h0 b v t.length cap f x2) sz pc ls (.int y :: .ref b :: st) := by
  refine V.eqh (pcq_hbx hH) (V.toG (E := h0) (b := b) ?_)
  obtain ⟨hSQ, hLG⟩ := hbx_sq (x2 := x2) hH
  refine V.cvq (g := gx g h0 b) (a := b) (av := [.int y]) hB.gx cw_J4_append_bf812 hl wi_J4_append_bf812 ws_J4_append_bf812 hd (q_J4_append_bf812 (g := gx g h0 b) hG hE hSQ hn ha hv) (hq_SB (g := gx g h0 b) _) fk_SB rfl hd' (by decide) rfl hst hc hsl (fun _ _ _ hf => hf.elim) (fun v9 m2 sz2 h2 => ?_) rfl
  obtain ⟨rfl, -, hq, hf, hby⟩ := h2
  rw [← List.length_append] at hq
  obtain ⟨e, hH'⟩ := pcq_back hH.1 hH.2.2.2.1 hH.2.2.2.2.2.2.2.2 hq
  exact V.eqh e (V.ug (kk _ _ _ _ _ hH' (hT.app (fun j hj => hf.2 j hj) hby)))

/-- clear of the memory's own cells -/
def FR (g : xG) (m : Mem) (q : Nat) : Prop := g.1.heap.size ≤ q ∧ cellAt g m (q - g.1.heap.size) = none ∧ q - g.1.heap.size ≠ m.2.1
theorem FR.pic {m : Mem} {q : Nat} (h : FR g m q) : hp g m q = ex g q := by
  unfold hp
  rw [if_neg (by have := h.1; omega), h.2.1]
  exact if_neg h.2.2
theorem FR.of {m : Mem} {q : Nat} (h1 : g.1.heap.size ≤ q) (h2 : hp g m q = none) : FR g m q := by
  unfold hp at h2
  rw [if_neg (by omega)] at h2
  cases e : cellAt g m (q - g.1.heap.size) with
  | some x => rw [e] at h2; cases h2
  | none =>
    rw [e] at h2
    refine ⟨h1, e, fun z => ?_⟩
    dsimp only at h2
    rw [if_pos z] at h2
    cases h2
theorem FR.far {m : Mem} {q : Nat} (h1 : g.1.heap.size + 363 ≤ q) (h2 : q ≠ ad g m.2.1) : FR g m q := ⟨by omega, cell_none (Or.inr (by omega)), fun z => h2 (by unfold ad; omega)⟩
theorem hp_hx {E : xH} {c b : Nat} {m : Mem} {e : va_E} (h : FR g m b) : hx (hp (gx g E c) m) b e = hp (gx g (hx E b e) c) m := by
  funext q
  by_cases hq : q = b
  · subst hq
    rw [hx_at]
    exact ((FR.pic (g := gx g (hx E q e) c) h).trans (hx_at _ _ _)).symm
  · rw [hx_ne _ _ hq]
    unfold hp
    rw [show ex (gx g (hx E b e) c) q = ex (gx g E c) q from hx_ne _ _ hq]
    rfl
theorem hbx_hp {E : xH} {c b v n cap : Nat} {f : Nat → Int32} {x2 : Int32} {m : Mem} (h1 : FR g m b) (h2 : FR g m v) : hbx g (hp (gx g E c) m) b v n cap f x2 = hp (gx g (hbx g E b v n cap f x2) c) m := by
  unfold hbx
  rw [hp_hx h1, hp_hx h2]
theorem hp_low {m : Mem} {q : Nat} (h : q < g.1.heap.size) : hp g m q = none := if_pos h
/-- what lies at the heap's end, and behind, is free -/
theorem V.fresh (hB : Bd g B cc nL own ret d mc ms) {m : Mem} (hM : cellAt g m m.2.1 = none) (kk : g.1.heap.size + 363 ≤ sz → ad g m.2.1 < sz → (∀ q, sz ≤ q → hp g m q = none) → V g B k n0 Q (hp g m) sz pc ls st) : V g B k n0 Q (hp g m) sz pc ls st := by
  refine V.bound hB (hp_at (ca_Tally m)) (fun h1 _ => ?_)
  refine V.bound hB (hp_sb hM) (fun h2 _ => ?_)
  by_cases hx9 : ∃ q e, sz ≤ q ∧ hp g m q = some e
  · obtain ⟨q, e, b1, b2⟩ := hx9
    refine V.bound hB b2 (fun h3 _ => absurd h3 (by omega))
  · refine kk (by unfold ad at h1; omega) h2 (fun q hq => ?_)
    cases e : hp g m q with
    | none => rfl
    | some x => exact absurd ⟨q, x, hq, e⟩ hx9
theorem px_1 (h : xH) (a : Nat) (e : va_E) : hx h a e = px h a 1 (fun _ => e) := by
  funext q
  unfold hx px
  by_cases h1 : q = a
  · rw [if_pos h1, if_pos (by omega)]
  · rw [if_neg h1, if_neg (by omega)]
theorem px_hbx (h : xH) (a : Nat) : px h a 2 (sbE g a) = hbx g h a (a + 1) 0 16 (fun _ => 0) 0 := by
  funext q
  unfold hbx hx px
  by_cases h2 : q = a + 1
  · subst h2
    rw [if_pos (by omega), if_pos rfl, Nat.add_sub_cancel_left]
    rfl
  · rw [if_neg h2]
    by_cases h1 : q = a
    · subst h1
      rw [if_pos (by omega), if_pos rfl, Nat.sub_self]
      rfl
    · rw [if_neg h1, if_neg (by omega)]
/-- the text at a: in the picture's further cells, or of the start -/
def TS (g : xG) (E : xH) (m : Mem) (a w : Nat) (t : List Int32) : Prop := (∀ (q : Nat) (e : va_E), E q = some e → g.1.heap.size + 363 ≤ q ∧ q ≠ ad g m.2.1) ∧ SX g E a w t.length t
theorem TS.vis {E : xH} {m : Mem} {a w c : Nat} {t : List Int32} (h : TS g E m a w t) : ∀ (q : Nat) (e : va_E), E q = some e → hp (gx g E c) m q = some e := fun q e he => (FR.pic (g := gx g E c) (FR.far (g := g) (h.1 q e he).1 (h.1 q e he).2)).trans he
theorem TS.sx {E : xH} {m : Mem} {a w c : Nat} {t : List Int32} (h : TS g E m a w t) : SX g (hp (gx g E c) m) a w t.length t := h.2.mono h.vis
theorem TS.nx {E : xH} {m : Mem} {a w : Nat} {t : List Int32} (h : TS g E m a w t) : E (ad g m.2.1) = none := by
  cases e : E (ad g m.2.1) with
  | none => rfl
  | some x => exact absurd rfl (h.1 _ x e).2
end PX9
