/-! the constructors: what they lay into the heap -/
section PX
variable {g : xG}
/-- the picture h with n cells more from a on -/
def px (h : xH) (a n : Nat) (f : Nat → va_E) : xH := fun q => if a ≤ q ∧ q < a + n then some (f (q - a)) else h q
theorem px_at (h : xH) (a : Nat) {n k : Nat} (f : Nat → va_E) (hk : k < n) : px h a n f (a + k) = some (f k) := by
  unfold px
  rw [if_pos (by omega), Nat.add_sub_cancel_left]
theorem px_0 (h : xH) (a : Nat) {n : Nat} (f : Nat → va_E) (hn : 0 < n) : px h a n f a = some (f 0) := px_at h a f hn
theorem px_push (h : xH) (a n : Nat) (f : Nat → va_E) (e : va_E) : hx (px h a n f) (a + n) e = px h a (n + 1) (fun k => if k = n then e else f k) := by
  funext q
  unfold hx px
  dsimp only
  by_cases h1 : q = a + n
  · rw [if_pos h1, if_pos (by omega), if_pos (by omega)]
  · rw [if_neg h1]
    by_cases h2 : a ≤ q ∧ q < a + n
    · rw [if_pos h2, if_pos (by omega), if_neg (by omega)]
    · rw [if_neg h2, if_neg (by omega)]
theorem px_set (h : xH) (a : Nat) {n j : Nat} (f : Nat → va_E) (e : va_E) (hj : j < n) : hx (px h a n f) (a + j) e = px h a n (fun k => if k = j then e else f k) := by
  funext q
  unfold hx px
  dsimp only
  by_cases h1 : q = a + j
  · rw [if_pos h1, if_pos (by omega), if_pos (by omega)]
  · rw [if_neg h1]
    by_cases h2 : a ≤ q ∧ q < a + n
    · rw [if_pos h2, if_pos h2, if_neg (by omega)]
    · rw [if_neg h2, if_neg h2]
theorem px_cat (h : xH) (a n m : Nat) (f f2 : Nat → va_E) : px (px h a n f) (a + n) m f2 = px h a (n + m) (fun k => if k < n then f k else f2 (k - n)) := by
  funext q
  unfold px
  dsimp only
  by_cases h1 : a + n ≤ q ∧ q < a + n + m
  · rw [if_pos h1, if_pos (by omega), if_neg (by omega), show q - (a + n) = q - a - n by omega]
  · rw [if_neg h1]
    by_cases h2 : a ≤ q ∧ q < a + n
    · rw [if_pos h2, if_pos (by omega), if_pos (by omega)]
    · rw [if_neg h2, if_neg (by omega)]
theorem px_congr {h : xH} {a n : Nat} {f f' : Nat → va_E} (e : ∀ k, k < n → f k = f' k) : px h a n f = px h a n f' := by
  funext q
  unfold px
  by_cases h1 : a ≤ q ∧ q < a + n
  · rw [if_pos h1, if_pos h1, e _ (by omega)]
  · rw [if_neg h1, if_neg h1]
theorem hx_px1 (h : xH) (a : Nat) (e : va_E) : hx h a e = px h a 1 (fun _ => e) := by
  funext q
  unfold hx px
  dsimp only
  by_cases h1 : q = a
  · rw [if_pos h1, if_pos (by omega)]
  · rw [if_neg h1, if_neg (by omega)]
def rowI (g : xG) (n : Nat) : va_E := .inl (g.2.2.1 0, n, .inl (fun _ => 0))
def rowC (g : xG) (n : Nat) : va_E := .inl (g.2.2.1 1, n, .inl (fun _ => 0))
def lakeE (g : xG) (a k : Nat) : va_E := if k = 0 then .inr (3, [.ref (a + 1), .ref (a + 2), .ref (a + 3), .int 0, .int 20, .int 0]) else rowI g 8
def winE (g : xG) (a k : Nat) : va_E := if k = 0 then .inr (6, [.ref (a + 1), .ref (a + 2), .int 0]) else rowI g 6
def pealE (g : xG) (a k : Nat) : va_E := if k = 0 then .inr (5, [.ref (a + 1), .ref (a + 2), .ref (a + 3), .ref (a + 4), .int 0, .int 0]) else if k = 1 then rowC g 16 else rowI g 16
def cmdE (g : xG) (a k : Nat) : va_E := if k = 0 then .inr (0, [.ref (g.2.2.2.1 0), .ref (a + 1), .int 0]) else rowI g 3
def refRow (g : xG) (t n : Nat) (f : Nat → Nat) (j : Nat) : va_E := .inl (g.2.2.1 t, n, .inr (.inr (.inr (.inr (fun y => if y < j then some (f y) else none)))))
def landP (g : xG) (a j k : Nat) : va_E := if k = 0 then .inr (4, [.ref (a + 1), .int 0, .int 0, .int 0, .int 0, .int 0, .ref (a + 2), .ref (a + 5)]) else if k = 1 then refRow g 6 5 (fun y => a + (10 + 4 * y)) j else if k < 5 then winE g (a + 2) (k - 2) else if k < 10 then pealE g (a + 5) (k - 5) else lakeE g (a + (10 + 4 * ((k - 10) / 4))) ((k - 10) % 4)
def histP (g : xG) (a j k : Nat) : va_E := if k = 0 then .inr (2, [.ref (a + 1), .int 0, .int 0]) else if k = 1 then refRow g 7 8 (fun y => a + (2 + 30 * y)) j else landP g (a + (2 + 30 * ((k - 2) / 30))) 5 ((k - 2) % 30)
def ctxP (g : xG) (a j k : Nat) : va_E := if k = 0 then .inr (1, [.ref (a + 1), .int 0, .int 0, .ref (a + 2), .int 0]) else if k = 1 then rowC g 60 else if k = 2 then refRow g 5 12 (fun y => a + (3 + 2 * y)) j else cmdE g (a + (3 + 2 * ((k - 3) / 2))) ((k - 3) % 2)
theorem refRow_0 (g : xG) (t n : Nat) (f : Nat → Nat) : (.inl (g.2.2.1 t, n, .inr (.inr (.inr (.inr (fun _ => none))))) : va_E) = refRow g t n f 0 := by
  unfold refRow
  have e : (fun _ => none : Nat → Option Nat) = fun y => if y < 0 then some (f y) else none := by
    funext y
    exact (if_neg (Nat.not_lt_zero y)).symm
  rw [e]
theorem refRow_s (g : xG) (t n : Nat) (f : Nat → Nat) (j : Nat) (hj : j < 1000) : (.inl (g.2.2.1 t, n, .inr (.inr (.inr (.inr (va_up (fun y => if y < j then some (f y) else none) (nI j).toNatClampNeg (some (f j))))))) : va_E) = refRow g t n f (j + 1) := by
  unfold refRow
  have e : va_up (fun y => if y < j then some (f y) else none) (nI j).toNatClampNeg (some (f j)) = fun y => if y < j + 1 then some (f y) else none := by
    funext y
    rw [nI_clamp (by omega)]
    unfold va_up
    dsimp only
    by_cases h : y = j
    · rw [if_pos h, if_pos (by omega), h]
    · rw [if_neg h]
      by_cases h2 : y < j
      · rw [if_pos h2, if_pos (by omega)]
      · rw [if_neg h2, if_neg (by omega)]
  rw [e]
variable {B : BT} {k n0 : Nat} {Q : State → Prop} {h : xH} {sz pc a n : Nat} {ls : List (Option Value)} {st : List Value} {cc : ByteArray} {nL : Nat} {own : String} {ret : Option FieldType} {d mc ms : Nat}
theorem V.pic {h2 : xH} {sz2 : Nat} (e : h = h2) (e2 : sz = sz2) (kk : V g B k n0 Q h2 sz2 pc ls st) : V g B k n0 Q h sz pc ls st := by
  subst e e2
  exact kk
theorem V.ctF (hB : Bd g B cc nL own ret d mc ms) (hI : Bi B) {f : Nat → va_E} {ci N idx : Nat} {C : String} {T : u_T} {ty : Nat → FieldType} {fs : List Value} {v : Value} (hF : FK ci C T N ty) (j : Nat) (hlink : WD (.fieldLink own idx (T j).1 (T j).2.1 (T j).2.2.1)) (hd : decode cc pc = .ok (.putfield idx, 3)) (hf : j < N) (hfin : (T j).2.2.2 = true) (hdecl : (T j).1 = own) (he : f 0 = .inr (ci, fs)) (hn0 : 0 < n) (hl : j < fs.length) (hn : narrow (ty j) v = v) (hfit : fits (ty j) v = true)
    (kk : V g B k n0 Q (px h a n (fun q => if q = 0 then .inr (ci, fs.set j v) else f q)) sz (pc + 3) ls st) : V g B k n0 Q (px h a n f) sz pc ls (v :: .ref a :: st) := by
  refine V.putF hB (fun p l e R s m args below meth c hb => ?_) hF j hlink hd hf hfin hdecl ((px_0 h a f hn0).trans (congrArg some he)) hl hn hfit (h' := px h a n (fun q => if q = 0 then .inr (ci, fs.set j v) else f q)) (px_0 h a _ hn0) (fun q hq => ?_) kk
  · subst hb
    exact hI
  · unfold px
    dsimp only
    by_cases h1 : a ≤ q ∧ q < a + n
    · rw [if_pos h1, if_pos h1, if_neg (by omega)]
    · rw [if_neg h1, if_neg h1]
theorem V.ctP (hB : Bd g B cc nL own ret d mc ms) {f : Nat → va_E} {ci N idx : Nat} {C : String} {T : u_T} {ty : Nat → FieldType} {fs : List Value} {v : Value} (hF : FK ci C T N ty) (j : Nat) (hlink : WD (.fieldLink own idx (T j).1 (T j).2.1 (T j).2.2.1)) (hd : decode cc pc = .ok (.putfield idx, 3)) (hf : j < N) (hfin : (T j).2.2.2 = false) (he : f 0 = .inr (ci, fs)) (hn0 : 0 < n) (hl : j < fs.length) (hn : narrow (ty j) v = v) (hfit : fits (ty j) v = true)
    (kk : V g B k n0 Q (px h a n (fun q => if q = 0 then .inr (ci, fs.set j v) else f q)) sz (pc + 3) ls st) : V g B k n0 Q (px h a n f) sz pc ls (v :: .ref a :: st) := by
  refine V.put hB hF j hlink hd hf hfin ((px_0 h a f hn0).trans (congrArg some he)) hl hn hfit (h' := px h a n (fun q => if q = 0 then .inr (ci, fs.set j v) else f q)) (px_0 h a _ hn0) (fun q hq => ?_) kk
  unfold px
  dsimp only
  by_cases h1 : a ≤ q ∧ q < a + n
  · rw [if_pos h1, if_pos h1, if_neg (by omega)]
  · rw [if_neg h1, if_neg h1]
def noH : String → xH → Nat → Prop := fun _ _ _ => False
theorem noH_no : ∀ (E : String) (h' : xH) (sz' : Nat), ¬ noH E h' sz' := fun _ _ _ h => h
end PX

set_option maxRecDepth 100000 in
set_option maxHeartbeats 1000000 in
theorem ct_X5_init {g : xG} (hG : GK g) {a : Nat} {h : xH} : Ct g yX5_init (.code yX5_init cX5_init 1 none) 2 3 24 [.ref a] (px h a 1 (fun _ => .inr (3, [.null, .null, .null, .int 0, .int 0, .int 0]))) (a + 1) (fun r h' sz' => r = none ∧ sz' = a + 1 + 3 ∧ h' = px h a 4 (lakeE g a)) noH := by
  refine Ct.mk hG RX5 rfl (by decide +kernel) rfl (Nat.le_of_ble_eq_true rfl) (fun B hB _ hi => ?_)
  have hI := hi rfl
  show V g B 0 0 _ (px h a 1 _) (a + 1) 0 [some (.ref a)] []
  refine V.aload_n (pc := 0) hB dX5_init_0 rfl ?_
  refine V.objInit (pc := 1) hB wmo_X5 dX5_init_1 (by omega) (by decide) ?_
  refine V.aload_n (pc := 4) hB dX5_init_4 rfl ?_
  refine V.bipush (pc := 5) (v := 8) hB dX5_init_5 rfl ?_
  refine V.newarr (pc := 7) hB 0 (atype := .int) (N' := 8) (a0 := (8, .inl (fun _ => 0))) war_int rfl rfl (fun _ => rfl) (by decide) rfl (Nat.le_of_ble_eq_true rfl) (by omega) (by omega) dX5_init_7 ?_
  refine V.pic (px_push _ _ _ _ _) rfl ?_
  refine V.ctF (pc := 9) hB hI fk_Lake 0 wf_X5_9 dX5_init_9 (by decide) rfl rfl rfl (by omega) (Nat.le_of_ble_eq_true rfl) rfl rfl ?_
  refine V.aload_n (pc := 12) hB dX5_init_12 rfl ?_
  refine V.bipush (pc := 13) (v := 8) hB dX5_init_13 rfl ?_
  refine V.newarr (pc := 15) hB 0 (atype := .int) (N' := 8) (a0 := (8, .inl (fun _ => 0))) war_int rfl rfl (fun _ => rfl) (by decide) rfl (Nat.le_of_ble_eq_true rfl) (by omega) (by omega) dX5_init_15 ?_
  refine V.pic (px_push _ _ _ _ _) rfl ?_
  refine V.ctF (pc := 17) hB hI fk_Lake 1 wf_X5_15 dX5_init_17 (by decide) rfl rfl rfl (by omega) (Nat.le_of_ble_eq_true rfl) rfl rfl ?_
  refine V.aload_n (pc := 20) hB dX5_init_20 rfl ?_
  refine V.bipush (pc := 21) (v := 8) hB dX5_init_21 rfl ?_
  refine V.newarr (pc := 23) hB 0 (atype := .int) (N' := 8) (a0 := (8, .inl (fun _ => 0))) war_int rfl rfl (fun _ => rfl) (by decide) rfl (Nat.le_of_ble_eq_true rfl) (by omega) (by omega) dX5_init_23 ?_
  refine V.pic (px_push _ _ _ _ _) rfl ?_
  refine V.ctF (pc := 25) hB hI fk_Lake 2 wf_X5_18 dX5_init_25 (by decide) rfl rfl rfl (by omega) (Nat.le_of_ble_eq_true rfl) rfl rfl ?_
  refine V.aload_n (pc := 28) hB dX5_init_28 rfl ?_
  refine V.iconst (pc := 29) (v := 0) hB dX5_init_29 rfl ?_
  refine V.ctP (pc := 30) hB fk_Lake 3 wf_X5_21 dX5_init_30 (by decide) rfl rfl (by omega) (Nat.le_of_ble_eq_true rfl) rfl rfl ?_
  refine V.aload_n (pc := 33) hB dX5_init_33 rfl ?_
  refine V.bipush (pc := 34) (v := 20) hB dX5_init_34 rfl ?_
  refine V.ctP (pc := 36) hB fk_Lake 4 wf_X5_25 dX5_init_36 (by decide) rfl rfl (by omega) (Nat.le_of_ble_eq_true rfl) rfl rfl ?_
  refine V.aload_n (pc := 39) hB dX5_init_39 rfl ?_
  refine V.iconst (pc := 40) (v := 0) hB dX5_init_40 rfl ?_
  refine V.ctP (pc := 41) hB fk_Lake 5 wf_X5_28 dX5_init_41 (by decide) rfl rfl (by omega) (Nat.le_of_ble_eq_true rfl) rfl rfl ?_
  refine V.wid (by omega) (by omega) (V.vret hB dX5_init_44 rfl ⟨rfl, rfl, ?_⟩)
  exact px_congr (fun k hk => by
    rcases (by omega : k = 0 ∨ k = 1 ∨ k = 2 ∨ k = 3) with rfl | rfl | rfl | rfl <;> rfl)

set_option maxRecDepth 100000 in
set_option maxHeartbeats 1000000 in
theorem ct_X8_init {g : xG} (hG : GK g) {a : Nat} {h : xH} : Ct g yX8_init (.code yX8_init cX8_init 1 none) 2 2 12 [.ref a] (px h a 1 (fun _ => .inr (6, [.null, .null, .int 0]))) (a + 1) (fun r h' sz' => r = none ∧ sz' = a + 1 + 2 ∧ h' = px h a 3 (winE g a)) noH := by
  refine Ct.mk hG RX8 rfl (by decide +kernel) rfl (Nat.le_of_ble_eq_true rfl) (fun B hB _ hi => ?_)
  have hI := hi rfl
  show V g B 0 0 _ (px h a 1 _) (a + 1) 0 [some (.ref a)] []
  refine V.aload_n (pc := 0) hB dX8_init_0 rfl ?_
  refine V.objInit (pc := 1) hB wmo_X8 dX8_init_1 (by omega) (by decide) ?_
  refine V.aload_n (pc := 4) hB dX8_init_4 rfl ?_
  refine V.bipush (pc := 5) (v := 6) hB dX8_init_5 rfl ?_
  refine V.newarr (pc := 7) hB 0 (atype := .int) (N' := 6) (a0 := (6, .inl (fun _ => 0))) war_int rfl rfl (fun _ => rfl) (by decide) rfl (Nat.le_of_ble_eq_true rfl) (by omega) (by omega) dX8_init_7 ?_
  refine V.pic (px_push _ _ _ _ _) rfl ?_
  refine V.ctF (pc := 9) hB hI fk_Win 0 wf_X8_9 dX8_init_9 (by decide) rfl rfl rfl (by omega) (Nat.le_of_ble_eq_true rfl) rfl rfl ?_
  refine V.aload_n (pc := 12) hB dX8_init_12 rfl ?_
  refine V.bipush (pc := 13) (v := 6) hB dX8_init_13 rfl ?_
  refine V.newarr (pc := 15) hB 0 (atype := .int) (N' := 6) (a0 := (6, .inl (fun _ => 0))) war_int rfl rfl (fun _ => rfl) (by decide) rfl (Nat.le_of_ble_eq_true rfl) (by omega) (by omega) dX8_init_15 ?_
  refine V.pic (px_push _ _ _ _ _) rfl ?_
  refine V.ctF (pc := 17) hB hI fk_Win 1 wf_X8_15 dX8_init_17 (by decide) rfl rfl rfl (by omega) (Nat.le_of_ble_eq_true rfl) rfl rfl ?_
  refine V.aload_n (pc := 20) hB dX8_init_20 rfl ?_
  refine V.iconst (pc := 21) (v := 0) hB dX8_init_21 rfl ?_
  refine V.ctP (pc := 22) hB fk_Win 2 wf_X8_18 dX8_init_22 (by decide) rfl rfl (by omega) (Nat.le_of_ble_eq_true rfl) rfl rfl ?_
  refine V.wid (by omega) (by omega) (V.vret hB dX8_init_25 rfl ⟨rfl, rfl, ?_⟩)
  exact px_congr (fun k hk => by
    rcases (by omega : k = 0 ∨ k = 1 ∨ k = 2) with rfl | rfl | rfl <;> rfl)

set_option maxRecDepth 100000 in
set_option maxHeartbeats 1000000 in
theorem ct_X7_init {g : xG} (hG : GK g) {a : Nat} {h : xH} : Ct g yX7_init (.code yX7_init cX7_init 1 none) 2 4 64 [.ref a] (px h a 1 (fun _ => .inr (5, [.null, .null, .null, .null, .int 0, .int 0]))) (a + 1) (fun r h' sz' => r = none ∧ sz' = a + 1 + 4 ∧ h' = px h a 5 (pealE g a)) noH := by
  refine Ct.mk hG RX7 rfl (by decide +kernel) rfl (Nat.le_of_ble_eq_true rfl) (fun B hB _ hi => ?_)
  have hI := hi rfl
  show V g B 0 0 _ (px h a 1 _) (a + 1) 0 [some (.ref a)] []
  refine V.aload_n (pc := 0) hB dX7_init_0 rfl ?_
  refine V.objInit (pc := 1) hB wmo_X7 dX7_init_1 (by omega) (by decide) ?_
  refine V.aload_n (pc := 4) hB dX7_init_4 rfl ?_
  refine V.bipush (pc := 5) (v := 16) hB dX7_init_5 rfl ?_
  refine V.newarr (pc := 7) hB 1 (atype := .char) (N' := 16) (a0 := (16, .inl (fun _ => 0))) war_char rfl rfl (fun _ => rfl) (by decide) rfl (Nat.le_of_ble_eq_true rfl) (by omega) (by omega) dX7_init_7 ?_
  refine V.pic (px_push _ _ _ _ _) rfl ?_
  refine V.ctF (pc := 9) hB hI fk_Peal 0 wf_X7_9 dX7_init_9 (by decide) rfl rfl rfl (by omega) (Nat.le_of_ble_eq_true rfl) rfl rfl ?_
  refine V.aload_n (pc := 12) hB dX7_init_12 rfl ?_
  refine V.bipush (pc := 13) (v := 16) hB dX7_init_13 rfl ?_
  refine V.newarr (pc := 15) hB 0 (atype := .int) (N' := 16) (a0 := (16, .inl (fun _ => 0))) war_int rfl rfl (fun _ => rfl) (by decide) rfl (Nat.le_of_ble_eq_true rfl) (by omega) (by omega) dX7_init_15 ?_
  refine V.pic (px_push _ _ _ _ _) rfl ?_
  refine V.ctF (pc := 17) hB hI fk_Peal 1 wf_X7_15 dX7_init_17 (by decide) rfl rfl rfl (by omega) (Nat.le_of_ble_eq_true rfl) rfl rfl ?_
  refine V.aload_n (pc := 20) hB dX7_init_20 rfl ?_
  refine V.bipush (pc := 21) (v := 16) hB dX7_init_21 rfl ?_
  refine V.newarr (pc := 23) hB 0 (atype := .int) (N' := 16) (a0 := (16, .inl (fun _ => 0))) war_int rfl rfl (fun _ => rfl) (by decide) rfl (Nat.le_of_ble_eq_true rfl) (by omega) (by omega) dX7_init_23 ?_
  refine V.pic (px_push _ _ _ _ _) rfl ?_
  refine V.ctF (pc := 25) hB hI fk_Peal 2 wf_X7_19 dX7_init_25 (by decide) rfl rfl rfl (by omega) (Nat.le_of_ble_eq_true rfl) rfl rfl ?_
  refine V.aload_n (pc := 28) hB dX7_init_28 rfl ?_
  refine V.bipush (pc := 29) (v := 16) hB dX7_init_29 rfl ?_
  refine V.newarr (pc := 31) hB 0 (atype := .int) (N' := 16) (a0 := (16, .inl (fun _ => 0))) war_int rfl rfl (fun _ => rfl) (by decide) rfl (Nat.le_of_ble_eq_true rfl) (by omega) (by omega) dX7_init_31 ?_
  refine V.pic (px_push _ _ _ _ _) rfl ?_
  refine V.ctF (pc := 33) hB hI fk_Peal 3 wf_X7_22 dX7_init_33 (by decide) rfl rfl rfl (by omega) (Nat.le_of_ble_eq_true rfl) rfl rfl ?_
  refine V.aload_n (pc := 36) hB dX7_init_36 rfl ?_
  refine V.iconst (pc := 37) (v := 0) hB dX7_init_37 rfl ?_
  refine V.ctP (pc := 38) hB fk_Peal 4 wf_X7_25 dX7_init_38 (by decide) rfl rfl (by omega) (Nat.le_of_ble_eq_true rfl) rfl rfl ?_
  refine V.aload_n (pc := 41) hB dX7_init_41 rfl ?_
  refine V.iconst (pc := 42) (v := 0) hB dX7_init_42 rfl ?_
  refine V.ctP (pc := 43) hB fk_Peal 5 wf_X7_29 dX7_init_43 (by decide) rfl rfl (by omega) (Nat.le_of_ble_eq_true rfl) rfl rfl ?_
  refine V.wid (by omega) (by omega) (V.vret hB dX7_init_46 rfl ⟨rfl, rfl, ?_⟩)
  exact px_congr (fun k hk => by
    rcases (by omega : k = 0 ∨ k = 1 ∨ k = 2 ∨ k = 3 ∨ k = 4) with rfl | rfl | rfl | rfl | rfl <;> rfl)

set_option maxRecDepth 100000 in
set_option maxHeartbeats 1000000 in
theorem ct_X1_init {g : xG} (hG : GK g) {z : xE} (hE : GE g z) {a : Nat} {h : xH} : Ct g yX1_init (.code yX1_init cX1_init 1 none) 2 1 3 [.ref a] (px h a 1 (fun _ => .inr (0, [.null, .null, .int 0]))) (a + 1) (fun r h' sz' => r = none ∧ sz' = a + 1 + 1 ∧ h' = px h a 2 (cmdE g a)) noH := by
  refine Ct.mk hG RX1 rfl (by decide +kernel) rfl (Nat.le_of_ble_eq_true rfl) (fun B hB _ hi => ?_)
  have hI := hi rfl
  show V g B 0 0 _ (px h a 1 _) (a + 1) 0 [some (.ref a)] []
  refine V.aload_n (pc := 0) hB dX1_init_0 rfl ?_
  refine V.objInit (pc := 1) hB wmo_X1 dX1_init_1 (by omega) (by decide) ?_
  refine V.aload_n (pc := 4) hB dX1_init_4 rfl ?_
  refine V.gets (pc := 5) hB hE.lake wf_X1_9 dX1_init_5 ?_
  refine V.ctP (pc := 8) hB fk_Cmd 0 wf_X1_15 dX1_init_8 (by decide) rfl rfl (by omega) (Nat.le_of_ble_eq_true rfl) rfl rfl ?_
  refine V.aload_n (pc := 11) hB dX1_init_11 rfl ?_
  refine V.iconst (pc := 12) (v := 3) hB dX1_init_12 rfl ?_
  refine V.newarr (pc := 13) hB 0 (atype := .int) (N' := 3) (a0 := (3, .inl (fun _ => 0))) war_int rfl rfl (fun _ => rfl) (by decide) rfl (Nat.le_of_ble_eq_true rfl) (by omega) (by omega) dX1_init_13 ?_
  refine V.pic (px_push _ _ _ _ _) rfl ?_
  refine V.ctF (pc := 15) hB hI fk_Cmd 1 wf_X1_20 dX1_init_15 (by decide) rfl rfl rfl (by omega) (Nat.le_of_ble_eq_true rfl) rfl rfl ?_
  refine V.aload_n (pc := 18) hB dX1_init_18 rfl ?_
  refine V.iconst (pc := 19) (v := 0) hB dX1_init_19 rfl ?_
  refine V.ctP (pc := 20) hB fk_Cmd 2 wf_X1_24 dX1_init_20 (by decide) rfl rfl (by omega) (Nat.le_of_ble_eq_true rfl) rfl rfl ?_
  refine V.wid (by omega) (by omega) (V.vret hB dX1_init_23 rfl ⟨rfl, rfl, ?_⟩)
  exact px_congr (fun k hk => by
    rcases (by omega : k = 0 ∨ k = 1) with rfl | rfl <;> rfl)

def sbE (g : xG) (a k : Nat) : va_E := if k = 0 then .inr (9, [.ref (a + 1), .int 0, .int 0, .int 0]) else .inl (g.2.2.1 4, 16, .inl (fun _ => 0))

set_option maxRecDepth 100000 in
set_option maxHeartbeats 1000000 in
theorem ct_J5_init_d00df {g : xG} (hG : GK g) {z : xE} (hE : GE g z) {a : Nat} {h : xH} : Ct g yJ5_init_d00df (.code yJ5_init_d00df cJ5_init_d00df 2 none) 2 1 16 [.ref a, .int 16] (px h a 1 (fun _ => .inr (9, [.null, .int 0, .int 0, .int 0]))) (a + 1) (fun r h' sz' => r = none ∧ sz' = a + 1 + 1 ∧ h' = px h a 2 (sbE g a)) noH := by
  refine Ct.mk hG RJ5 rfl (by decide +kernel) rfl (Nat.le_of_ble_eq_true rfl) (fun B hB _ hi => ?_)
  have hI := hi rfl
  show V g B 0 0 _ (px h a 1 _) (a + 1) 0 [some (.ref a), some (.int 16)] []
  refine V.aload_n (pc := 0) hB dJ5_init_d00df_0 rfl ?_
  refine V.objInit (pc := 1) hB wmo_J5 dJ5_init_d00df_1 (by omega) (by decide) ?_
  refine V.gets (pc := 4) hB hE.cs wf_J5_18 dJ5_init_d00df_4 ?_
  refine V.if_eq (pc := 7) (tgt := 25) hB dJ5_init_d00df_7 (by decide) (fun c => absurd c (by decide)) (fun c => ?_)
  refine V.aload_n (pc := 10) hB dJ5_init_d00df_10 rfl ?_
  refine V.iload_n (pc := 11) hB dJ5_init_d00df_11 rfl ?_
  refine V.newarr (pc := 12) hB 4 (atype := .byte) (N' := 16) (a0 := (16, .inl (fun _ => 0))) war_byte rfl rfl (fun _ => rfl) (by decide) rfl (Nat.le_of_ble_eq_true rfl) (by omega) (by omega) dJ5_init_d00df_12 ?_
  refine V.pic (px_push _ _ _ _ _) rfl ?_
  refine V.ctP (pc := 14) hB fk_SB 0 wf_J5_15 dJ5_init_d00df_14 (by decide) rfl rfl (by omega) (Nat.le_of_ble_eq_true rfl) rfl rfl ?_
  refine V.aload_n (pc := 17) hB dJ5_init_d00df_17 rfl ?_
  refine V.iconst (pc := 18) (v := 0) hB dJ5_init_d00df_18 rfl ?_
  refine V.ctP (pc := 19) hB fk_SB 1 wf_J5_22 dJ5_init_d00df_19 (by decide) rfl rfl (by omega) (Nat.le_of_ble_eq_true rfl) rfl rfl ?_
  refine V.goto (pc := 22) (tgt := 38) hB dJ5_init_d00df_22 (by decide) ?_
  refine V.wid (by omega) (by omega) (V.vret hB dJ5_init_d00df_38 rfl ⟨rfl, rfl, ?_⟩)
  exact px_congr (fun k hk => by
    rcases (by omega : k = 0 ∨ k = 1) with rfl | rfl <;> rfl)

set_option maxRecDepth 100000 in
set_option maxHeartbeats 1000000 in
theorem ct_J4_init_da8c8 {g : xG} (hG : GK g) {z : xE} (hE : GE g z) {a : Nat} {h : xH} : Ct g yJ4_init_da8c8 (.code yJ4_init_da8c8 cJ4_init_da8c8 1 none) 4 1 16 [.ref a] (px h a 1 (fun _ => .inr (9, [.null, .int 0, .int 0, .int 0]))) (a + 1) (fun r h' sz' => r = none ∧ sz' = a + 1 + 1 ∧ h' = px h a 2 (sbE g a)) noH := by
  refine Ct.mk hG RJ4 rfl (by decide +kernel) rfl (Nat.le_of_ble_eq_true rfl) (fun B hB _ hi => ?_)
  have hI := hi rfl
  show V g B 0 0 _ (px h a 1 _) (a + 1) 0 [some (.ref a)] []
  refine V.aload_n (pc := 0) hB dJ4_init_da8c8_0 rfl ?_
  refine V.bipush (pc := 1) (v := 16) hB dJ4_init_da8c8_1 rfl ?_
  refine V.callI (pc := 3) (av := [.int 16]) hB cw_J5_init_d00df wm_J4_1 rfl wi_J5_init_d00df dJ4_init_da8c8_3 (d' := 2) (by omega) (by decide) (ct_J5_init_d00df hG hE) noH_no rfl (by decide) (by omega) (by omega) (fun v h2 sz2 hq => ?_) rfl
  obtain ⟨rfl, rfl, rfl⟩ := hq
  refine V.wid (by omega) (by omega) (V.vret hB dJ4_init_da8c8_6 rfl ⟨rfl, rfl, rfl⟩)
