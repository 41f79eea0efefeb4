/-! the law's own rows: a double kept, locals forgotten, the script read, the room, the reference's exception number -/
theorem LH.st2 {A' : Array Slot} {nL i : Nat} {x : Value} {ls : List (Option Value)} (h : lv_has A' nL ((i, x) :: (prs ls).filter (fun q => !(q.1 == i) && (!(q.1 == i + 1) && !(q.1 + 1 == i && q.2.category == 2))))) (ho : ok1 ls i = true) : LH A' nL ((ls.set i (some x)).set (i + 1) none) := by
  refine ⟨h.1, h.2.1, fun j v hj => ?_⟩
  rw [List.getElem?_set] at hj
  by_cases e1 : i + 1 = j
  · rw [if_pos e1] at hj
    split at hj <;> cases hj
  · rw [if_neg e1, List.getElem?_set] at hj
    by_cases e : i = j
    · rw [if_pos e] at hj
      by_cases e2 : i < ls.length
      · rw [if_pos e2] at hj
        cases hj
        rw [← e]
        exact h.2.2 _ List.mem_cons_self
      · rw [if_neg e2] at hj
        cases hj
    · rw [if_neg e] at hj
      refine h.2.2 (j, v) (List.mem_cons_of_mem _ (List.mem_filter.mpr ⟨prs_in.mpr hj, ?_⟩))
      have h1 : (j == i) = false := by simpa using fun z : j = i => e z.symm
      have h3 : (j == i + 1) = false := by simpa using fun z : j = i + 1 => e1 z.symm
      by_cases e4 : j + 1 = i
      · have hc := ok1_of ho hj e4
        simp [h1, h3, hc]
      · have h2 : (j + 1 == i) = false := by simpa using e4
        simp [h1, h2, h3]
section LR
variable {g : xG} {B : BT} {k n : Nat} {Q : State → Prop} {h : xH} {m : Mem} {sz pc : Nat} {ls : List (Option Value)} {st : List Value} {cc : ByteArray} {nL : Nat} {own : String} {ret : Option FieldType} {d mc ms : Nat}
theorem V.dstore (hB : Bd g B cc nL own ret d mc ms) {i : Nat} {x : UInt64} (hd : decode cc pc = .ok (.dstore i, 2)) (hn : i + 1 < nL) (ho : ok1 ls i = true) (kk : V g B k n Q h sz (pc + 2) ((ls.set i (some (.double x))).set (i + 1) none) (st)) : V g B k n Q h sz pc ls (.double x :: st) := by
  obtain ⟨p, l, e, R, s, m, args, below, meth, c⟩ := B
  obtain ⟨hx, hb, hml, hown, hr, hlk, hG, hW, hR, hfl⟩ := hB
  intro H locs A hz hl0
  exact lv_dstore hx hb hd (lv := prs ls) (by rw [← hml]; exact hl0.has) hn rfl (fun A2 h2 => kk H locs A2 hz (by rw [hml]; exact LH.st2 h2 ho))
theorem ls_in {a0 a1 a2 a3 a4 a5 a6 a7 a8 : Option Value} : ∀ (i : Nat) (v : Value), [a0, a1, a2, a3, a4, a5, none, none, none][i]? = some (some v) → [a0, a1, a2, a3, a4, a5, a6, a7, a8][i]? = some (some v) := by
  intro i v h
  match i, h with
  | 0, h => exact h
  | 1, h => exact h
  | 2, h => exact h
  | 3, h => exact h
  | 4, h => exact h
  | 5, h => exact h
  | 6, h => cases h
  | 7, h => cases h
  | 8, h => cases h
  | q + 9, h => simp at h
end LR
theorem va_X.tbl {b L : Nat} {xs : Nat → Int32} {U : State} {H : Heap} (h : va_X b L xs U H) {A : Nat → Prop} (hA : ¬ A b) : va_T .int b L (fun j => .int (xs j)) A U H := by
  obtain ⟨scr, h1, h2, h3, h4, h5⟩ := h
  exact ⟨scr, h1, h2, h3, Nat.le_of_eq h4.symm, congrArg Nat.toInt32 h4, h5, hA⟩
theorem nI_plus (a b : Nat) : nI a + nI b = nI (a + b) := (Int32.ofNat_add a b).symm
theorem sx {L c q : Nat} {xs : Nat → Int32} (hc : 4 * c + 4 ≤ L) (hL : L ≤ 2048) (hq : q < 4) : vp_in (nI (4 * c) + nI q) L ∧ (fun j => Value.int (xs j)) (nI (4 * c) + nI q).toNatClampNeg = .int (xs (4 * c + q)) := by
  rw [nI_plus]
  have h := ix_nI (q := 4 * c + q) (N := L) (by omega) (by omega)
  exact ⟨h.2, congrArg (fun j => Value.int (xs j)) h.1⟩
theorem sx0 {L c : Nat} {xs : Nat → Int32} (hc : 4 * c + 4 ≤ L) (hL : L ≤ 2048) : vp_in (nI (4 * c)) L ∧ (fun j => Value.int (xs j)) (nI (4 * c)).toNatClampNeg = .int (xs (4 * c)) := by
  have h := ix_nI (q := 4 * c) (N := L) (by omega) (by omega)
  exact ⟨h.2, congrArg (fun j => Value.int (xs j)) h.1⟩
theorem lg_cmp_id (x : Int64) : lg_cmp x x = 0 := by
  unfold lg_cmp
  have : ¬ x > x := by
    show ¬ x < x
    rw [Int64.lt_iff_toInt_lt]
    omega
  rw [if_neg this, if_pos rfl]
theorem dcmp_cs (x : UInt64) : FP.dcmp x x = some .eq → Op.cmpValue (FP.dcmp x x) .l = 0 := fun h => by rw [h]; rfl
theorem room_mono {s : State} {pl : Platform} {r r' : Room} (h : s.hasRoom pl r = true) (h1 : r'.frames ≤ r.frames) (h2 : r'.cells ≤ r.cells) (h3 : r'.slots ≤ r.slots) (h4 : r'.locals ≤ r.locals) : s.hasRoom pl r' = true := by
  simp only [State.hasRoom, Bool.and_eq_true, decide_eq_true_eq] at h ⊢
  obtain ⟨⟨⟨⟨a1, a2, a3, a4, a5, a6⟩, a7⟩, a8⟩, a9⟩ := h
  exact ⟨⟨⟨⟨by omega, by omega, by omega, by omega, by omega, a6⟩, by omega⟩, by omega⟩, a9⟩
theorem W.roomLe {p : Program} {l : Launch} {e : Env} {R R' : Room} {s : State} {m : MethodId} {args : Array Value} {below : List Frame} {meth : Method} {c : Code} {H : Heap} {locs : List Loc} {k n : Nat} {Q : State → Prop} {f : JFrame} (hR : ∀ (s : State) (pl : Platform), s.hasRoom pl R = true → s.hasRoom pl R' = true) (kk : W p l e R' s m args below meth c H locs k n Q f) : W p l e R s m args below meth c H locs k n Q f :=
  fun T hT X => kk T hT ⟨X.admits, X.cas, X.clock, X.frames, hR _ _ X.room, X.hears, X.method, X.code, X.here, X.tail, X.warmed, X.limits, X.bytes, X.same⟩
-- thrown
set_option maxRecDepth 100000 in
set_option maxHeartbeats 4000000 in
theorem c_X10_thrown {g : xG} (hG : GK g) {m : Mem} : CC g yX10_thrown (.code yX10_thrown cX10_thrown 1 (some .int)) 1 0 0 [.ref (ad g 363)] m (rI (fun v m' => v = m.1 363 15 ∧ m' = m)) noX := by
  refine CC.mk hG RX10 rfl (by decide +kernel) rfl (Nat.le_of_ble_eq_true rfl) (fun sz B hB hX => ?_)
  show V g B 0 0 _ (hp g m) sz 0 [some (.ref (ad g 363))] []
  refine V.aload_n (pc := 0) hB dX10_thrown_0 rfl ?_
  refine V.get (pc := 1) hB fk_Model 15 wf_X10_44 dX10_thrown_1 (by decide) (hp_at (ca_Model _)) rfl ?_
  refine V.retI (pc := 4) hB dX10_thrown_4 rfl (rfl) (by omega) (by omega) ?_
  exact ⟨rfl, rfl⟩
