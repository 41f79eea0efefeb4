theorem w_in_X1 : ∀ w ∈ u_ws RX1 TX1 3, w ∈ lw_tbl := by decide +kernel
theorem w_good_X1 : ∀ w ∈ u_ws RX1 TX1 3, goodWord w = true := by decide +kernel
theorem w_in_X2 : ∀ w ∈ u_ws RX2 TX2 5, w ∈ lw_tbl := by decide +kernel
theorem w_good_X2 : ∀ w ∈ u_ws RX2 TX2 5, goodWord w = true := by decide +kernel
theorem w_in_X3 : ∀ w ∈ u_ws RX3 TX3 3, w ∈ lw_tbl := by decide +kernel
theorem w_good_X3 : ∀ w ∈ u_ws RX3 TX3 3, goodWord w = true := by decide +kernel
theorem w_in_X5 : ∀ w ∈ u_ws RX5 TX5 6, w ∈ lw_tbl := by decide +kernel
theorem w_good_X5 : ∀ w ∈ u_ws RX5 TX5 6, goodWord w = true := by decide +kernel
theorem w_in_X6 : ∀ w ∈ u_ws RX6 TX6 8, w ∈ lw_tbl := by decide +kernel
theorem w_good_X6 : ∀ w ∈ u_ws RX6 TX6 8, goodWord w = true := by decide +kernel
theorem w_in_X7 : ∀ w ∈ u_ws RX7 TX7 6, w ∈ lw_tbl := by decide +kernel
theorem w_good_X7 : ∀ w ∈ u_ws RX7 TX7 6, goodWord w = true := by decide +kernel
theorem w_in_X8 : ∀ w ∈ u_ws RX8 TX8 3, w ∈ lw_tbl := by decide +kernel
theorem w_good_X8 : ∀ w ∈ u_ws RX8 TX8 3, goodWord w = true := by decide +kernel
theorem w_in_X9 : ∀ w ∈ u_ws RX9 TX9 11, w ∈ lw_tbl := by decide +kernel
theorem w_good_X9 : ∀ w ∈ u_ws RX9 TX9 11, goodWord w = true := by decide +kernel
theorem w_in_J0 : ∀ w ∈ u_ws RJ0 TJ0 4, w ∈ lw_tbl := by decide +kernel
theorem w_good_J0 : ∀ w ∈ u_ws RJ0 TJ0 4, goodWord w = true := by decide +kernel
theorem w_in_J4 : ∀ w ∈ u_ws RJ4 TJ4 4, w ∈ lw_tbl := by decide +kernel
theorem w_good_J4 : ∀ w ∈ u_ws RJ4 TJ4 4, goodWord w = true := by decide +kernel
/-! the memory: rows of numbers by cell; the address of the builder's byte row (from the start's end on) and its length -/
abbrev Mem : Type := (Nat → Nat → Int32) × Nat × Nat
def ad (g : xG) (k : Nat) : Nat := g.1.heap.size + k
def LA (i : Nat) : Nat := if i < 3 then 1 + 30 * i else 3 + 30 * i
def LK (i j : Nat) : Nat := LA i + 10 + 4 * j
def CM (i : Nat) : Nat := 336 + 2 * i
def dj (a b : Int32) : UInt64 := (a.toUInt32.toUInt64 <<< 32) ||| b.toUInt32.toUInt64
def up (m : Mem) (k f : Nat) (v : Int32) : Mem := (fun q j => if q = k ∧ j = f then v else m.1 q j, m.2)
theorem up_same (m : Mem) (k f : Nat) (v : Int32) : (up m k f v).1 k f = v := if_pos ⟨rfl, rfl⟩
theorem up_cell (m : Mem) {k q : Nat} (f : Nat) (v : Int32) (h : q ≠ k) : (up m k f v).1 q = m.1 q := by funext j; exact if_neg (fun z => h z.1)
theorem up_slot (m : Mem) (k : Nat) {f j : Nat} (v : Int32) (h : j ≠ f) : (up m k f v).1 k j = m.1 k j := if_neg (fun z => h z.2)
theorem up_row (m : Mem) (k f : Nat) (v : Int32) : (up m k f v).1 k = upd (m.1 k) f v := by
  funext j
  by_cases h : j = f
  · subst h; rw [up_same]; simp [upd]
  · rw [up_slot m k v h]; simp [upd, h]
/-- a landscape's cell at the place o, its own row c -/
def landCell (g : xG) (i o : Nat) (c : Nat → Int32) : va_E :=
  if o = 0 then .inr (4, [.ref (ad g (LA i + 1)), .int (c 1), .int (c 2), .int (c 3), .int (c 4), .int (c 5), .ref (ad g (LA i + 2)), .ref (ad g (LA i + 5))])
  else if o = 1 then .inl (g.2.2.1 6, 5, .inr (.inr (.inr (.inr (fun j => if j < 5 then some (ad g (LK i j)) else none)))))
  else if o = 2 then .inr (6, [.ref (ad g (LA i + 3)), .ref (ad g (LA i + 4)), .int (c 2)])
  else if o < 5 then .inl (g.2.2.1 0, 6, .inl c)
  else if o = 5 then .inr (5, [.ref (ad g (LA i + 6)), .ref (ad g (LA i + 7)), .ref (ad g (LA i + 8)), .ref (ad g (LA i + 9)), .int (c 4), .int (c 5)])
  else if o = 6 then .inl (g.2.2.1 1, 16, .inl c)
  else if o < 10 then .inl (g.2.2.1 0, 16, .inl c)
  else if (o - 10) % 4 = 0 then .inr (3, [.ref (ad g (LK i ((o - 10) / 4) + 1)), .ref (ad g (LK i ((o - 10) / 4) + 2)), .ref (ad g (LK i ((o - 10) / 4) + 3)), .int (c 3), .int (c 4), .int (c 5)])
  else .inl (g.2.2.1 0, 8, .inl c)
/-- what stands at the place k, its own row c; v: where the builder's bytes stand -/
def cellF (g : xG) (v k : Nat) (c : Nat → Int32) : Option va_E :=
  if k = 0 then some (.inr (7, [.ref (ad g (LA 0)), .ref (ad g (LA 1)), .ref (ad g (LA 2)), .int (c 3), .ref (ad g 91), .ref (ad g 333), .int (c 6), .int (c 7), .int (c 8), .ref (ad g 360), .ref (ad g 362)]))
  else if k < 91 then some (landCell g ((k - 1) / 30) ((k - 1) % 30) c)
  else if k = 91 then some (.inr (2, [.ref (ad g 92), .int (c 1), .int (c 2)]))
  else if k = 92 then some (.inl (g.2.2.1 7, 8, .inr (.inr (.inr (.inr (fun j => if j < 8 then some (ad g (LA (3 + j))) else none))))))
  else if k < 333 then some (landCell g ((k - 3) / 30) ((k - 3) % 30) c)
  else if k = 333 then some (.inr (1, [.ref (ad g 334), .int (c 1), .int (c 2), .ref (ad g 335), .int (c 4)]))
  else if k = 334 then some (.inl (g.2.2.1 1, 60, .inl c))
  else if k = 335 then some (.inl (g.2.2.1 5, 12, .inr (.inr (.inr (.inr (fun j => if j < 12 then some (ad g (CM j)) else none))))))
  else if k < 360 then (if k % 2 = 0 then some (.inr (0, [.ref (g.2.2.2.1 (c 0).toNatClampNeg), .ref (ad g (k + 1)), .int (c 2)])) else some (.inl (g.2.2.1 0, 3, .inl c)))
  else if k = 360 then some (.inr (9, [.ref (ad g v), .int 0, .int (c 2), .int (c 3)]))
  else if k = 361 then none
  else if k = 362 then some (.inl (g.2.2.1 0, 141, .inl c))
  else none
def cellAt (g : xG) (m : Mem) (k : Nat) : Option va_E := cellF g m.2.1 k (m.1 k)
/-- the heap picture of a memory -/
def lb (g : xG) : Nat := g.2.2.2.2.1
def ex (g : xG) : xH := g.2.2.2.2.2
def hp (g : xG) (m : Mem) : xH := fun a => if a < g.1.heap.size then none else match cellAt g m (a - g.1.heap.size) with
  | some e => some e
  | none => if a - g.1.heap.size = m.2.1 then some (.inl (g.2.2.1 4, m.2.2, .inl (m.1 361))) else ex g a
theorem hp_at {g : xG} {m : Mem} {k : Nat} {e : va_E} (h : cellAt g m k = some e) : hp g m (ad g k) = some e := by
  unfold hp ad
  rw [if_neg (by omega), Nat.add_sub_cancel_left, h]
theorem hp_sb {g : xG} {m : Mem} (h : cellAt g m m.2.1 = none) : hp g m (ad g m.2.1) = some (.inl (g.2.2.1 4, m.2.2, .inl (m.1 361))) := by
  unfold hp ad
  rw [if_neg (by omega), Nat.add_sub_cancel_left, h]
  dsimp only
  rw [if_pos rfl]
theorem cellAt_congr {g : xG} {m m' : Mem} {k : Nat} (h : m'.1 k = m.1 k) (h2 : m'.2 = m.2) : cellAt g m' k = cellAt g m k := by
  unfold cellAt
  rw [h, h2]
theorem hp_up {g : xG} {m : Mem} {k f : Nat} {v : Int32} (hk : k ≠ 361) : ∀ q, q ≠ ad g k → hp g (up m k f v) q = hp g m q := by
  intro q hq
  unfold hp
  by_cases h : q < g.1.heap.size
  · rw [if_pos h, if_pos h]
  · rw [if_neg h, if_neg h]
    have hne : q - g.1.heap.size ≠ k := fun z => hq (by unfold ad; omega)
    rw [cellAt_congr (up_cell m f v hne) rfl, up_cell m f v (Ne.symm hk)]
    rfl
theorem ca_low {g : xG} {i o : Nat} (hi : i < 11) (ho : o < 30) : ∀ m : Mem, cellAt g m (LA i + o) = some (landCell g i o (m.1 (LA i + o))) := by
  intro m
  unfold cellAt
  generalize m.1 (LA i + o) = c
  unfold cellF LA
  by_cases h3 : i < 3
  · rw [if_pos h3, if_neg (by omega), if_pos (by omega), show (1 + 30 * i + o - 1) / 30 = i by omega, show (1 + 30 * i + o - 1) % 30 = o by omega]
  · rw [if_neg h3, if_neg (by omega), if_neg (by omega), if_neg (by omega), if_neg (by omega), if_pos (by omega), show (3 + 30 * i + o - 3) / 30 = i by omega, show (3 + 30 * i + o - 3) % 30 = o by omega]
theorem ca_Land {g : xG} {i : Nat} (hi : i < 11) : ∀ m : Mem, cellAt g m (LA i) = some (.inr (4, [.ref (ad g (LA i + 1)), .int (m.1 (LA i) 1), .int (m.1 (LA i) 2), .int (m.1 (LA i) 3), .int (m.1 (LA i) 4), .int (m.1 (LA i) 5), .ref (ad g (LA i + 2)), .ref (ad g (LA i + 5))])) := fun m => ca_low (o := 0) hi (by omega) m
theorem ca_Lakes {g : xG} {i : Nat} (hi : i < 11) : ∀ m : Mem, cellAt g m (LA i + 1) = some (.inl (g.2.2.1 6, 5, .inr (.inr (.inr (.inr (fun j => if j < 5 then some (ad g (LK i j)) else none)))))) := fun m => ca_low (o := 1) hi (by omega) m
theorem ca_Win {g : xG} {i : Nat} (hi : i < 11) : ∀ m : Mem, cellAt g m (LA i + 2) = some (.inr (6, [.ref (ad g (LA i + 3)), .ref (ad g (LA i + 4)), .int (m.1 (LA i + 2) 2)])) := fun m => ca_low (o := 2) hi (by omega) m
theorem ca_WinF {g : xG} {i : Nat} (hi : i < 11) : ∀ m : Mem, cellAt g m (LA i + 3) = some (.inl (g.2.2.1 0, 6, .inl (m.1 (LA i + 3)))) := fun m => ca_low (o := 3) hi (by omega) m
theorem ca_WinL {g : xG} {i : Nat} (hi : i < 11) : ∀ m : Mem, cellAt g m (LA i + 4) = some (.inl (g.2.2.1 0, 6, .inl (m.1 (LA i + 4)))) := fun m => ca_low (o := 4) hi (by omega) m
theorem ca_Peal {g : xG} {i : Nat} (hi : i < 11) : ∀ m : Mem, cellAt g m (LA i + 5) = some (.inr (5, [.ref (ad g (LA i + 6)), .ref (ad g (LA i + 7)), .ref (ad g (LA i + 8)), .ref (ad g (LA i + 9)), .int (m.1 (LA i + 5) 4), .int (m.1 (LA i + 5) 5)])) := fun m => ca_low (o := 5) hi (by omega) m
theorem ca_PKind {g : xG} {i : Nat} (hi : i < 11) : ∀ m : Mem, cellAt g m (LA i + 6) = some (.inl (g.2.2.1 1, 16, .inl (m.1 (LA i + 6)))) := fun m => ca_low (o := 6) hi (by omega) m
theorem ca_PLake {g : xG} {i : Nat} (hi : i < 11) : ∀ m : Mem, cellAt g m (LA i + 7) = some (.inl (g.2.2.1 0, 16, .inl (m.1 (LA i + 7)))) := fun m => ca_low (o := 7) hi (by omega) m
theorem ca_PPitch {g : xG} {i : Nat} (hi : i < 11) : ∀ m : Mem, cellAt g m (LA i + 8) = some (.inl (g.2.2.1 0, 16, .inl (m.1 (LA i + 8)))) := fun m => ca_low (o := 8) hi (by omega) m
theorem ca_PHour {g : xG} {i : Nat} (hi : i < 11) : ∀ m : Mem, cellAt g m (LA i + 9) = some (.inl (g.2.2.1 0, 16, .inl (m.1 (LA i + 9)))) := fun m => ca_low (o := 9) hi (by omega) m
theorem ca_Lake {g : xG} {i j : Nat} (hi : i < 11) (hj : j < 5) : ∀ m : Mem, cellAt g m (LK i j) = some (.inr (3, [.ref (ad g (LK i j + 1)), .ref (ad g (LK i j + 2)), .ref (ad g (LK i j + 3)), .int (m.1 (LK i j) 3), .int (m.1 (LK i j) 4), .int (m.1 (LK i j) 5)])) := by
  intro m
  have h := ca_low (g := g) (i := i) (o := 10 + 4 * j + 0) hi (by omega) m
  rw [show LA i + (10 + 4 * j + 0) = LK i j by unfold LK; omega] at h
  rw [h]
  generalize m.1 (LK i j) = c
  unfold landCell
  rw [if_neg (by omega), if_neg (by omega), if_neg (by omega), if_neg (by omega), if_neg (by omega), if_neg (by omega), if_neg (by omega), if_pos (by omega), show (10 + 4 * j + 0 - 10) / 4 = j by omega]
theorem ca_LThick {g : xG} {i j : Nat} (hi : i < 11) (hj : j < 5) : ∀ m : Mem, cellAt g m (LK i j + 1) = some (.inl (g.2.2.1 0, 8, .inl (m.1 (LK i j + 1)))) := by
  intro m
  have h := ca_low (g := g) (i := i) (o := 10 + 4 * j + 1) hi (by omega) m
  rw [show LA i + (10 + 4 * j + 1) = LK i j + 1 by unfold LK; omega] at h
  rw [h]
  generalize m.1 (LK i j + 1) = c
  unfold landCell
  rw [if_neg (by omega), if_neg (by omega), if_neg (by omega), if_neg (by omega), if_neg (by omega), if_neg (by omega), if_neg (by omega), if_neg (by omega)]
theorem ca_LTemp {g : xG} {i j : Nat} (hi : i < 11) (hj : j < 5) : ∀ m : Mem, cellAt g m (LK i j + 2) = some (.inl (g.2.2.1 0, 8, .inl (m.1 (LK i j + 2)))) := by
  intro m
  have h := ca_low (g := g) (i := i) (o := 10 + 4 * j + 2) hi (by omega) m
  rw [show LA i + (10 + 4 * j + 2) = LK i j + 2 by unfold LK; omega] at h
  rw [h]
  generalize m.1 (LK i j + 2) = c
  unfold landCell
  rw [if_neg (by omega), if_neg (by omega), if_neg (by omega), if_neg (by omega), if_neg (by omega), if_neg (by omega), if_neg (by omega), if_neg (by omega)]
theorem ca_LStrain {g : xG} {i j : Nat} (hi : i < 11) (hj : j < 5) : ∀ m : Mem, cellAt g m (LK i j + 3) = some (.inl (g.2.2.1 0, 8, .inl (m.1 (LK i j + 3)))) := by
  intro m
  have h := ca_low (g := g) (i := i) (o := 10 + 4 * j + 3) hi (by omega) m
  rw [show LA i + (10 + 4 * j + 3) = LK i j + 3 by unfold LK; omega] at h
  rw [h]
  generalize m.1 (LK i j + 3) = c
  unfold landCell
  rw [if_neg (by omega), if_neg (by omega), if_neg (by omega), if_neg (by omega), if_neg (by omega), if_neg (by omega), if_neg (by omega), if_neg (by omega)]
theorem ca_Cmd {g : xG} {i : Nat} (hi : i < 12) : ∀ m : Mem, cellAt g m (CM i) = some (.inr (0, [.ref (g.2.2.2.1 (m.1 (CM i) 0).toNatClampNeg), .ref (ad g (CM i + 1)), .int (m.1 (CM i) 2)])) := by
  intro m
  unfold cellAt
  generalize m.1 (CM i) = c
  unfold cellF CM
  rw [if_neg (by omega), if_neg (by omega), if_neg (by omega), if_neg (by omega), if_neg (by omega), if_neg (by omega), if_neg (by omega), if_neg (by omega), if_pos (by omega), if_pos (by omega)]
theorem ca_CmdN {g : xG} {i : Nat} (hi : i < 12) : ∀ m : Mem, cellAt g m (CM i + 1) = some (.inl (g.2.2.1 0, 3, .inl (m.1 (CM i + 1)))) := by
  intro m
  unfold cellAt
  generalize m.1 (CM i + 1) = c
  unfold cellF CM
  rw [if_neg (by omega), if_neg (by omega), if_neg (by omega), if_neg (by omega), if_neg (by omega), if_neg (by omega), if_neg (by omega), if_neg (by omega), if_pos (by omega), if_neg (by omega)]
theorem ca_Bells {g : xG} : ∀ m : Mem, cellAt g m 0 = some (.inr (7, [.ref (ad g (LA 0)), .ref (ad g (LA 1)), .ref (ad g (LA 2)), .int (m.1 0 3), .ref (ad g 91), .ref (ad g 333), .int (m.1 0 6), .int (m.1 0 7), .int (m.1 0 8), .ref (ad g 360), .ref (ad g 362)])) := fun _ => rfl
theorem ca_Hist {g : xG} : ∀ m : Mem, cellAt g m 91 = some (.inr (2, [.ref (ad g 92), .int (m.1 91 1), .int (m.1 91 2)])) := fun _ => rfl
theorem ca_Past {g : xG} : ∀ m : Mem, cellAt g m 92 = some (.inl (g.2.2.1 7, 8, .inr (.inr (.inr (.inr (fun j => if j < 8 then some (ad g (LA (3 + j))) else none)))))) := fun _ => rfl
theorem ca_CText {g : xG} : ∀ m : Mem, cellAt g m 333 = some (.inr (1, [.ref (ad g 334), .int (m.1 333 1), .int (m.1 333 2), .ref (ad g 335), .int (m.1 333 4)])) := fun _ => rfl
theorem ca_Chars {g : xG} : ∀ m : Mem, cellAt g m 334 = some (.inl (g.2.2.1 1, 60, .inl (m.1 334))) := fun _ => rfl
theorem ca_Cmds {g : xG} : ∀ m : Mem, cellAt g m 335 = some (.inl (g.2.2.1 5, 12, .inr (.inr (.inr (.inr (fun j => if j < 12 then some (ad g (CM j)) else none)))))) := fun _ => rfl
theorem ca_SB {g : xG} : ∀ m : Mem, cellAt g m 360 = some (.inr (9, [.ref (ad g m.2.1), .int 0, .int (m.1 360 2), .int (m.1 360 3)])) := fun _ => rfl
theorem ca_Tally {g : xG} : ∀ m : Mem, cellAt g m 362 = some (.inl (g.2.2.1 0, 141, .inl (m.1 362))) := fun _ => rfl
section VM
variable {g : xG} {B : BT} {k n : Nat} {Q : State → Prop} {m : Mem} {sz pc : Nat} {ls : List (Option Value)} {st : List Value} {cc : ByteArray} {nL : Nat} {own : String} {ret : Option FieldType} {d mc ms : Nat}
abbrev ix (i : Int32) (q N : Nat) : Prop := i.toNatClampNeg = q ∧ vp_in i N
theorem ix_nI {q N : Nat} (h : q < N) (hN : N < 2 ^ 31) : ix (nI q) q N := ⟨nI_clamp (by omega), vp_in_nI h hN⟩
theorem V.ialdM (hB : Bd g B cc nL own ret d mc ms) {a N q : Nat} {i : Int32} (he : ∀ m : Mem, cellAt g m a = some (.inl (g.2.2.1 0, N, .inl (m.1 a)))) (hd : decode cc pc = .ok (.iaload, 1)) (hi : ix i q N) (kk : V g B k n Q (hp g m) sz (pc + 1) ls (.int (m.1 a q) :: st)) : V g B k n Q (hp g m) sz pc ls (.int i :: .ref (ad g a) :: st) := by
  refine V.iald hB hd (hp_at (he m)) hi.2 ?_
  rw [hi.1]
  exact kk
theorem V.caldM (hB : Bd g B cc nL own ret d mc ms) {a N q : Nat} {i : Int32} (he : ∀ m : Mem, cellAt g m a = some (.inl (g.2.2.1 1, N, .inl (m.1 a)))) (hd : decode cc pc = .ok (.caload, 1)) (hi : ix i q N) (kk : V g B k n Q (hp g m) sz (pc + 1) ls (.int (m.1 a q) :: st)) : V g B k n Q (hp g m) sz pc ls (.int i :: .ref (ad g a) :: st) := by
  refine V.cald hB hd (hp_at (he m)) hi.2 ?_
  rw [hi.1]
  exact kk
theorem V.iastM (hB : Bd g B cc nL own ret d mc ms) {a N q : Nat} {i x : Int32} (he : ∀ m : Mem, cellAt g m a = some (.inl (g.2.2.1 0, N, .inl (m.1 a)))) (hd : decode cc pc = .ok (.iastore, 1)) (hi : ix i q N) (ha : a ≠ 361) (kk : V g B k n Q (hp g (up m a q x)) sz (pc + 1) ls st) : V g B k n Q (hp g m) sz pc ls (.int x :: .int i :: .ref (ad g a) :: st) := by
  refine V.iast hB hd (hp_at (he m)) hi.2 (hp_at ((he (up m a q x)).trans ?_)) (hp_up ha) kk
  rw [up_row, hi.1]
theorem V.castM (hB : Bd g B cc nL own ret d mc ms) {a N q : Nat} {i x : Int32} (he : ∀ m : Mem, cellAt g m a = some (.inl (g.2.2.1 1, N, .inl (m.1 a)))) (hd : decode cc pc = .ok (.castore, 1)) (hi : ix i q N) (ha : a ≠ 361) (hx : vp_nar .char x = x) (kk : V g B k n Q (hp g (up m a q x)) sz (pc + 1) ls st) : V g B k n Q (hp g m) sz pc ls (.int x :: .int i :: .ref (ad g a) :: st) := by
  refine V.cast hB hd (hp_at (he m)) hi.2 (hp_at ((he (up m a q x)).trans ?_)) (hp_up ha) kk
  rw [up_row, hi.1, hx]
theorem V.putM (hB : Bd g B cc nL own ret d mc ms) {ci N idx a : Nat} {C : String} {T : u_T} {ty : Nat → FieldType} {fs : List Value} {v : Int32} (hF : FK ci C T N ty) (f : Nat) (hlink : WD (.fieldLink own idx (T f).1 (T f).2.1 (T f).2.2.1)) (hd : decode cc pc = .ok (.putfield idx, 3)) (hf : f < N) (hfin : (T f).2.2.2 = false) (he : cellAt g m a = some (.inr (ci, fs))) (hl : f < fs.length) (hn : narrow (ty f) (.int v) = .int v) (hfit : fits (ty f) (.int v) = true) (h1 : cellAt g (up m a f v) a = some (.inr (ci, fs.set f (.int v)))) (ha : a ≠ 361) (kk : V g B k n Q (hp g (up m a f v)) sz (pc + 3) ls st) : V g B k n Q (hp g m) sz pc ls (.int v :: .ref (ad g a) :: st) :=
  V.put hB hF f hlink hd hf hfin (hp_at he) hl hn hfit (hp_at h1) (hp_up ha) kk
theorem fk_Cmd : FK 0 RX1 TX1 3 tyX1 := ⟨rfl, fun w hw => ⟨w_in_X1 w hw, w_good_X1 w hw⟩, tyX1_ok, nmX1⟩
theorem V.p_Cmd_numberCount (hB : Bd g B cc nL own ret d mc ms) {i : Nat} {idx : Nat} {v : Int32} (hlink : WD (.fieldLink own idx (TX1 2).1 (TX1 2).2.1 (TX1 2).2.2.1)) (hd : decode cc pc = .ok (.putfield idx, 3)) (hi : i < 12) (kk : V g B k n Q (hp g (up m (CM i) 2 v)) sz (pc + 3) ls st) : V g B k n Q (hp g m) sz pc ls (.int v :: .ref (ad g (CM i)) :: st) :=
  V.putM hB fk_Cmd 2 hlink hd (by decide) rfl ((ca_Cmd hi) m) (Nat.le_of_ble_eq_true rfl) rfl rfl (by rw [ca_Cmd hi (up m (CM i) 2 v)]; simp [up]) (by unfold CM; omega) kk
theorem fk_CText : FK 1 RX2 TX2 5 tyX2 := ⟨rfl, fun w hw => ⟨w_in_X2 w hw, w_good_X2 w hw⟩, tyX2_ok, nmX2⟩
theorem V.p_CText_length (hB : Bd g B cc nL own ret d mc ms) {idx : Nat} {v : Int32} (hlink : WD (.fieldLink own idx (TX2 1).1 (TX2 1).2.1 (TX2 1).2.2.1)) (hd : decode cc pc = .ok (.putfield idx, 3))  (kk : V g B k n Q (hp g (up m (333) 1 v)) sz (pc + 3) ls st) : V g B k n Q (hp g m) sz pc ls (.int v :: .ref (ad g (333)) :: st) :=
  V.putM hB fk_CText 1 hlink hd (by decide) rfl (ca_CText m) (Nat.le_of_ble_eq_true rfl) rfl rfl (by rw [ca_CText (up m 333 1 v)]; simp [up]) (by decide) kk
theorem V.p_CText_position (hB : Bd g B cc nL own ret d mc ms) {idx : Nat} {v : Int32} (hlink : WD (.fieldLink own idx (TX2 2).1 (TX2 2).2.1 (TX2 2).2.2.1)) (hd : decode cc pc = .ok (.putfield idx, 3))  (kk : V g B k n Q (hp g (up m (333) 2 v)) sz (pc + 3) ls st) : V g B k n Q (hp g m) sz pc ls (.int v :: .ref (ad g (333)) :: st) :=
  V.putM hB fk_CText 2 hlink hd (by decide) rfl (ca_CText m) (Nat.le_of_ble_eq_true rfl) rfl rfl (by rw [ca_CText (up m 333 2 v)]; simp [up]) (by decide) kk
theorem V.p_CText_commandCount (hB : Bd g B cc nL own ret d mc ms) {idx : Nat} {v : Int32} (hlink : WD (.fieldLink own idx (TX2 4).1 (TX2 4).2.1 (TX2 4).2.2.1)) (hd : decode cc pc = .ok (.putfield idx, 3))  (kk : V g B k n Q (hp g (up m (333) 4 v)) sz (pc + 3) ls st) : V g B k n Q (hp g m) sz pc ls (.int v :: .ref (ad g (333)) :: st) :=
  V.putM hB fk_CText 4 hlink hd (by decide) rfl (ca_CText m) (Nat.le_of_ble_eq_true rfl) rfl rfl (by rw [ca_CText (up m 333 4 v)]; simp [up]) (by decide) kk
theorem fk_Hist : FK 2 RX3 TX3 3 tyX3 := ⟨rfl, fun w hw => ⟨w_in_X3 w hw, w_good_X3 w hw⟩, tyX3_ok, nmX3⟩
theorem V.p_Hist_count (hB : Bd g B cc nL own ret d mc ms) {idx : Nat} {v : Int32} (hlink : WD (.fieldLink own idx (TX3 1).1 (TX3 1).2.1 (TX3 1).2.2.1)) (hd : decode cc pc = .ok (.putfield idx, 3))  (kk : V g B k n Q (hp g (up m (91) 1 v)) sz (pc + 3) ls st) : V g B k n Q (hp g m) sz pc ls (.int v :: .ref (ad g (91)) :: st) :=
  V.putM hB fk_Hist 1 hlink hd (by decide) rfl (ca_Hist m) (Nat.le_of_ble_eq_true rfl) rfl rfl (by rw [ca_Hist (up m 91 1 v)]; simp [up]) (by decide) kk
theorem V.p_Hist_next (hB : Bd g B cc nL own ret d mc ms) {idx : Nat} {v : Int32} (hlink : WD (.fieldLink own idx (TX3 2).1 (TX3 2).2.1 (TX3 2).2.2.1)) (hd : decode cc pc = .ok (.putfield idx, 3))  (kk : V g B k n Q (hp g (up m (91) 2 v)) sz (pc + 3) ls st) : V g B k n Q (hp g m) sz pc ls (.int v :: .ref (ad g (91)) :: st) :=
  V.putM hB fk_Hist 2 hlink hd (by decide) rfl (ca_Hist m) (Nat.le_of_ble_eq_true rfl) rfl rfl (by rw [ca_Hist (up m 91 2 v)]; simp [up]) (by decide) kk
theorem fk_Lake : FK 3 RX5 TX5 6 tyX5 := ⟨rfl, fun w hw => ⟨w_in_X5 w hw, w_good_X5 w hw⟩, tyX5_ok, nmX5⟩
theorem V.p_Lake_layerCount (hB : Bd g B cc nL own ret d mc ms) {i j : Nat} {idx : Nat} {v : Int32} (hlink : WD (.fieldLink own idx (TX5 3).1 (TX5 3).2.1 (TX5 3).2.2.1)) (hd : decode cc pc = .ok (.putfield idx, 3)) (hi : i < 11) (hj : j < 5) (kk : V g B k n Q (hp g (up m (LK i j) 3 v)) sz (pc + 3) ls st) : V g B k n Q (hp g m) sz pc ls (.int v :: .ref (ad g (LK i j)) :: st) :=
  V.putM hB fk_Lake 3 hlink hd (by decide) rfl ((ca_Lake hi hj) m) (Nat.le_of_ble_eq_true rfl) rfl rfl (by rw [ca_Lake hi hj (up m (LK i j) 3 v)]; simp [up]) (by unfold LK LA; split <;> omega) kk
theorem V.p_Lake_depth (hB : Bd g B cc nL own ret d mc ms) {i j : Nat} {idx : Nat} {v : Int32} (hlink : WD (.fieldLink own idx (TX5 4).1 (TX5 4).2.1 (TX5 4).2.2.1)) (hd : decode cc pc = .ok (.putfield idx, 3)) (hi : i < 11) (hj : j < 5) (kk : V g B k n Q (hp g (up m (LK i j) 4 v)) sz (pc + 3) ls st) : V g B k n Q (hp g m) sz pc ls (.int v :: .ref (ad g (LK i j)) :: st) :=
  V.putM hB fk_Lake 4 hlink hd (by decide) rfl ((ca_Lake hi hj) m) (Nat.le_of_ble_eq_true rfl) rfl rfl (by rw [ca_Lake hi hj (up m (LK i j) 4 v)]; simp [up]) (by unfold LK LA; split <;> omega) kk
theorem V.p_Lake_cracks (hB : Bd g B cc nL own ret d mc ms) {i j : Nat} {idx : Nat} {v : Int32} (hlink : WD (.fieldLink own idx (TX5 5).1 (TX5 5).2.1 (TX5 5).2.2.1)) (hd : decode cc pc = .ok (.putfield idx, 3)) (hi : i < 11) (hj : j < 5) (kk : V g B k n Q (hp g (up m (LK i j) 5 v)) sz (pc + 3) ls st) : V g B k n Q (hp g m) sz pc ls (.int v :: .ref (ad g (LK i j)) :: st) :=
  V.putM hB fk_Lake 5 hlink hd (by decide) rfl ((ca_Lake hi hj) m) (Nat.le_of_ble_eq_true rfl) rfl rfl (by rw [ca_Lake hi hj (up m (LK i j) 5 v)]; simp [up]) (by unfold LK LA; split <;> omega) kk
theorem fk_Land : FK 4 RX6 TX6 8 tyX6 := ⟨rfl, fun w hw => ⟨w_in_X6 w hw, w_good_X6 w hw⟩, tyX6_ok, nmX6⟩
theorem V.p_Land_lakeCount (hB : Bd g B cc nL own ret d mc ms) {i : Nat} {idx : Nat} {v : Int32} (hlink : WD (.fieldLink own idx (TX6 1).1 (TX6 1).2.1 (TX6 1).2.2.1)) (hd : decode cc pc = .ok (.putfield idx, 3)) (hi : i < 11) (kk : V g B k n Q (hp g (up m (LA i) 1 v)) sz (pc + 3) ls st) : V g B k n Q (hp g m) sz pc ls (.int v :: .ref (ad g (LA i)) :: st) :=
  V.putM hB fk_Land 1 hlink hd (by decide) rfl ((ca_Land hi) m) (Nat.le_of_ble_eq_true rfl) rfl rfl (by rw [ca_Land hi (up m (LA i) 1 v)]; simp [up]) (by unfold LA; split <;> omega) kk
theorem V.p_Land_air (hB : Bd g B cc nL own ret d mc ms) {i : Nat} {idx : Nat} {v : Int32} (hlink : WD (.fieldLink own idx (TX6 2).1 (TX6 2).2.1 (TX6 2).2.2.1)) (hd : decode cc pc = .ok (.putfield idx, 3)) (hi : i < 11) (kk : V g B k n Q (hp g (up m (LA i) 2 v)) sz (pc + 3) ls st) : V g B k n Q (hp g m) sz pc ls (.int v :: .ref (ad g (LA i)) :: st) :=
  V.putM hB fk_Land 2 hlink hd (by decide) rfl ((ca_Land hi) m) (Nat.le_of_ble_eq_true rfl) rfl rfl (by rw [ca_Land hi (up m (LA i) 2 v)]; simp [up]) (by unfold LA; split <;> omega) kk
theorem V.p_Land_hour (hB : Bd g B cc nL own ret d mc ms) {i : Nat} {idx : Nat} {v : Int32} (hlink : WD (.fieldLink own idx (TX6 3).1 (TX6 3).2.1 (TX6 3).2.2.1)) (hd : decode cc pc = .ok (.putfield idx, 3)) (hi : i < 11) (kk : V g B k n Q (hp g (up m (LA i) 3 v)) sz (pc + 3) ls st) : V g B k n Q (hp g m) sz pc ls (.int v :: .ref (ad g (LA i)) :: st) :=
  V.putM hB fk_Land 3 hlink hd (by decide) rfl ((ca_Land hi) m) (Nat.le_of_ble_eq_true rfl) rfl rfl (by rw [ca_Land hi (up m (LA i) 3 v)]; simp [up]) (by unfold LA; split <;> omega) kk
theorem V.p_Land_frozen (hB : Bd g B cc nL own ret d mc ms) {i : Nat} {idx : Nat} {v : Int32} (hlink : WD (.fieldLink own idx (TX6 4).1 (TX6 4).2.1 (TX6 4).2.2.1)) (hd : decode cc pc = .ok (.putfield idx, 3)) (hi : i < 11) (kk : V g B k n Q (hp g (up m (LA i) 4 v)) sz (pc + 3) ls st) : V g B k n Q (hp g m) sz pc ls (.int v :: .ref (ad g (LA i)) :: st) :=
  V.putM hB fk_Land 4 hlink hd (by decide) rfl ((ca_Land hi) m) (Nat.le_of_ble_eq_true rfl) rfl rfl (by rw [ca_Land hi (up m (LA i) 4 v)]; simp [up]) (by unfold LA; split <;> omega) kk
theorem V.p_Land_thawed (hB : Bd g B cc nL own ret d mc ms) {i : Nat} {idx : Nat} {v : Int32} (hlink : WD (.fieldLink own idx (TX6 5).1 (TX6 5).2.1 (TX6 5).2.2.1)) (hd : decode cc pc = .ok (.putfield idx, 3)) (hi : i < 11) (kk : V g B k n Q (hp g (up m (LA i) 5 v)) sz (pc + 3) ls st) : V g B k n Q (hp g m) sz pc ls (.int v :: .ref (ad g (LA i)) :: st) :=
  V.putM hB fk_Land 5 hlink hd (by decide) rfl ((ca_Land hi) m) (Nat.le_of_ble_eq_true rfl) rfl rfl (by rw [ca_Land hi (up m (LA i) 5 v)]; simp [up]) (by unfold LA; split <;> omega) kk
theorem fk_Peal : FK 5 RX7 TX7 6 tyX7 := ⟨rfl, fun w hw => ⟨w_in_X7 w hw, w_good_X7 w hw⟩, tyX7_ok, nmX7⟩
theorem V.p_Peal_count (hB : Bd g B cc nL own ret d mc ms) {i : Nat} {idx : Nat} {v : Int32} (hlink : WD (.fieldLink own idx (TX7 4).1 (TX7 4).2.1 (TX7 4).2.2.1)) (hd : decode cc pc = .ok (.putfield idx, 3)) (hi : i < 11) (kk : V g B k n Q (hp g (up m (LA i + 5) 4 v)) sz (pc + 3) ls st) : V g B k n Q (hp g m) sz pc ls (.int v :: .ref (ad g (LA i + 5)) :: st) :=
  V.putM hB fk_Peal 4 hlink hd (by decide) rfl ((ca_Peal hi) m) (Nat.le_of_ble_eq_true rfl) rfl rfl (by rw [ca_Peal hi (up m (LA i + 5) 4 v)]; simp [up]) (by unfold LA; split <;> omega) kk
theorem V.p_Peal_next (hB : Bd g B cc nL own ret d mc ms) {i : Nat} {idx : Nat} {v : Int32} (hlink : WD (.fieldLink own idx (TX7 5).1 (TX7 5).2.1 (TX7 5).2.2.1)) (hd : decode cc pc = .ok (.putfield idx, 3)) (hi : i < 11) (kk : V g B k n Q (hp g (up m (LA i + 5) 5 v)) sz (pc + 3) ls st) : V g B k n Q (hp g m) sz pc ls (.int v :: .ref (ad g (LA i + 5)) :: st) :=
  V.putM hB fk_Peal 5 hlink hd (by decide) rfl ((ca_Peal hi) m) (Nat.le_of_ble_eq_true rfl) rfl rfl (by rw [ca_Peal hi (up m (LA i + 5) 5 v)]; simp [up]) (by unfold LA; split <;> omega) kk
theorem fk_Win : FK 6 RX8 TX8 3 tyX8 := ⟨rfl, fun w hw => ⟨w_in_X8 w hw, w_good_X8 w hw⟩, tyX8_ok, nmX8⟩
theorem V.p_Win_count (hB : Bd g B cc nL own ret d mc ms) {i : Nat} {idx : Nat} {v : Int32} (hlink : WD (.fieldLink own idx (TX8 2).1 (TX8 2).2.1 (TX8 2).2.2.1)) (hd : decode cc pc = .ok (.putfield idx, 3)) (hi : i < 11) (kk : V g B k n Q (hp g (up m (LA i + 2) 2 v)) sz (pc + 3) ls st) : V g B k n Q (hp g m) sz pc ls (.int v :: .ref (ad g (LA i + 2)) :: st) :=
  V.putM hB fk_Win 2 hlink hd (by decide) rfl ((ca_Win hi) m) (Nat.le_of_ble_eq_true rfl) rfl rfl (by rw [ca_Win hi (up m (LA i + 2) 2 v)]; simp [up]) (by unfold LA; split <;> omega) kk
theorem fk_Bells : FK 7 RX9 TX9 11 tyX9 := ⟨rfl, fun w hw => ⟨w_in_X9 w hw, w_good_X9 w hw⟩, tyX9_ok, nmX9⟩
theorem V.p_Bells_hasSnapshot (hB : Bd g B cc nL own ret d mc ms) {idx : Nat} {v : Int32} (hlink : WD (.fieldLink own idx (TX9 3).1 (TX9 3).2.1 (TX9 3).2.2.1)) (hd : decode cc pc = .ok (.putfield idx, 3))  (hn : narrow .boolean (.int v) = .int v) (hfit : fits .boolean (.int v) = true) (kk : V g B k n Q (hp g (up m (0) 3 v)) sz (pc + 3) ls st) : V g B k n Q (hp g m) sz pc ls (.int v :: .ref (ad g (0)) :: st) :=
  V.putM hB fk_Bells 3 hlink hd (by decide) rfl (ca_Bells m) (Nat.le_of_ble_eq_true rfl) hn hfit (by rw [ca_Bells (up m 0 3 v)]; simp [up]) (by decide) kk
theorem V.p_Bells_errorPosition (hB : Bd g B cc nL own ret d mc ms) {idx : Nat} {v : Int32} (hlink : WD (.fieldLink own idx (TX9 6).1 (TX9 6).2.1 (TX9 6).2.2.1)) (hd : decode cc pc = .ok (.putfield idx, 3))  (kk : V g B k n Q (hp g (up m (0) 6 v)) sz (pc + 3) ls st) : V g B k n Q (hp g m) sz pc ls (.int v :: .ref (ad g (0)) :: st) :=
  V.putM hB fk_Bells 6 hlink hd (by decide) rfl (ca_Bells m) (Nat.le_of_ble_eq_true rfl) rfl rfl (by rw [ca_Bells (up m 0 6 v)]; simp [up]) (by decide) kk
theorem V.p_Bells_failedCommand (hB : Bd g B cc nL own ret d mc ms) {idx : Nat} {v : Int32} (hlink : WD (.fieldLink own idx (TX9 7).1 (TX9 7).2.1 (TX9 7).2.2.1)) (hd : decode cc pc = .ok (.putfield idx, 3))  (kk : V g B k n Q (hp g (up m (0) 7 v)) sz (pc + 3) ls st) : V g B k n Q (hp g m) sz pc ls (.int v :: .ref (ad g (0)) :: st) :=
  V.putM hB fk_Bells 7 hlink hd (by decide) rfl (ca_Bells m) (Nat.le_of_ble_eq_true rfl) rfl rfl (by rw [ca_Bells (up m 0 7 v)]; simp [up]) (by decide) kk
theorem V.p_Bells_failureKind (hB : Bd g B cc nL own ret d mc ms) {idx : Nat} {v : Int32} (hlink : WD (.fieldLink own idx (TX9 8).1 (TX9 8).2.1 (TX9 8).2.2.1)) (hd : decode cc pc = .ok (.putfield idx, 3))  (hn : narrow .char (.int v) = .int v) (hfit : fits .char (.int v) = true) (kk : V g B k n Q (hp g (up m (0) 8 v)) sz (pc + 3) ls st) : V g B k n Q (hp g m) sz pc ls (.int v :: .ref (ad g (0)) :: st) :=
  V.putM hB fk_Bells 8 hlink hd (by decide) rfl (ca_Bells m) (Nat.le_of_ble_eq_true rfl) hn hfit (by rw [ca_Bells (up m 0 8 v)]; simp [up]) (by decide) kk
theorem fk_Str : FK 8 RJ0 TJ0 4 tyJ0 := ⟨rfl, fun w hw => ⟨w_in_J0 w hw, w_good_J0 w hw⟩, tyJ0_ok, nmJ0⟩
theorem fk_SB : FK 9 RJ4 TJ4 4 tyJ4 := ⟨rfl, fun w hw => ⟨w_in_J4 w hw, w_good_J4 w hw⟩, tyJ4_ok, nmJ4⟩
theorem V.p_SB_maybeLatin1 (hB : Bd g B cc nL own ret d mc ms) {idx : Nat} {v : Int32} (hlink : WD (.fieldLink own idx (TJ4 2).1 (TJ4 2).2.1 (TJ4 2).2.2.1)) (hd : decode cc pc = .ok (.putfield idx, 3))  (hn : narrow .boolean (.int v) = .int v) (hfit : fits .boolean (.int v) = true) (kk : V g B k n Q (hp g (up m (360) 2 v)) sz (pc + 3) ls st) : V g B k n Q (hp g m) sz pc ls (.int v :: .ref (ad g (360)) :: st) :=
  V.putM hB fk_SB 2 hlink hd (by decide) rfl (ca_SB m) (Nat.le_of_ble_eq_true rfl) hn hfit (by rw [ca_SB (up m 360 2 v)]; simp [up]) (by decide) kk
theorem V.p_SB_count (hB : Bd g B cc nL own ret d mc ms) {idx : Nat} {v : Int32} (hlink : WD (.fieldLink own idx (TJ4 3).1 (TJ4 3).2.1 (TJ4 3).2.2.1)) (hd : decode cc pc = .ok (.putfield idx, 3))  (kk : V g B k n Q (hp g (up m (360) 3 v)) sz (pc + 3) ls st) : V g B k n Q (hp g m) sz pc ls (.int v :: .ref (ad g (360)) :: st) :=
  V.putM hB fk_SB 3 hlink hd (by decide) rfl (ca_SB m) (Nat.le_of_ble_eq_true rfl) rfl rfl (by rw [ca_SB (up m 360 3 v)]; simp [up]) (by decide) kk
end VM
