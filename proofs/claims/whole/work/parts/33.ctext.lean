/-! the command text: what its parts read, in numbers -/
def stB (T : Nat → Int32) (N p : Nat) (c : Int32) : Bool := decide (p < N) && decide (T p = c)
theorem stB_t {T : Nat → Int32} {N p : Nat} {c : Int32} (h1 : p < N) (h2 : T p = c) : stB T N p c = true := by simp [stB, h1, h2]
theorem stB_f1 {T : Nat → Int32} {N p : Nat} {c : Int32} (h1 : N ≤ p) : stB T N p c = false := by simp [stB]; intro h; omega
theorem stB_f2 {T : Nat → Int32} {N p : Nat} {c : Int32} (h1 : ¬ T p = c) : stB T N p c = false := by simp [stB, h1]
theorem stB_lt {T : Nat → Int32} {N p : Nat} {c : Int32} (h : stB T N p c = true) : p < N ∧ T p = c := by simpa [stB] using h
def isDg (T : Nat → Int32) (N p : Nat) : Bool := decide (p < N) && (decide (48 ≤ T p) && decide (T p ≤ 57))
def dgs (T : Nat → Int32) (N : Nat) : Nat → Nat → Nat
  | 0, _ => 0
  | k + 1, p => if isDg T N p = true then dgs T N k (p + 1) + 1 else 0
def nmV (T : Nat → Int32) (p : Nat) : Nat → Int32
  | 0 => 0
  | q + 1 => nmV T p q * 10 + (T (p + q) - 48)
abbrev PS : Type := Nat × List Int32
def numS (T : Nat → Int32) (N most : Nat) (fac : Int32) (s : PS) : Bool × PS := (decide (0 < dgs T N most s.1), s.1 + dgs T N most s.1, s.2 ++ [fac * nmV T s.1 (dgs T N most s.1)])
def sgnS (T : Nat → Int32) (N : Nat) (c : Int32) (s : PS) : Bool × PS := if stB T N s.1 c = true then (true, s.1 + 1, s.2) else (false, s)
def partS (T : Nat → Int32) (N : Nat) (c : Int32) (s : PS) : Bool × PS :=
  if c = 68 then numS T N 1 1 s else if c = 78 then numS T N 3 1 s
  else if c = 84 then (if stB T N s.1 45 = true then numS T N 3 (-1) (s.1 + 1, s.2) else numS T N 3 1 s) else sgnS T N c s
def formS (T : Nat → Int32) (N : Nat) : List Int32 → PS → Bool × PS
  | [], s => (true, s)
  | c :: cs, s => if (partS T N c s).1 = true then formS T N cs (partS T N c s).2 else (false, (partS T N c s).2)
theorem dgs_le (T : Nat → Int32) (N : Nat) : ∀ k p, dgs T N k p ≤ k
  | 0, _ => Nat.le_refl 0
  | k + 1, p => by
    show (if isDg T N p = true then dgs T N k (p + 1) + 1 else 0) ≤ k + 1
    have := dgs_le T N k (p + 1)
    split <;> omega
theorem dgs_in (T : Nat → Int32) (N : Nat) : ∀ k p q, q < dgs T N k p → isDg T N (p + q) = true
  | 0, _, q, h => absurd h (Nat.not_lt_zero q)
  | k + 1, p, q, h => by
    have h' : q < (if isDg T N p = true then dgs T N k (p + 1) + 1 else 0) := h
    by_cases hd : isDg T N p = true
    · rw [if_pos hd] at h'
      cases q with
      | zero => exact hd
      | succ q => have := dgs_in T N k (p + 1) q (by omega); rwa [show p + 1 + q = p + (q + 1) by omega] at this
    · rw [if_neg hd] at h'; omega
theorem dgs_end (T : Nat → Int32) (N : Nat) : ∀ k p, dgs T N k p < k → isDg T N (p + dgs T N k p) = false
  | 0, _, h => absurd h (Nat.not_lt_zero _)
  | k + 1, p, h => by
    have h' : (if isDg T N p = true then dgs T N k (p + 1) + 1 else 0) < k + 1 := h
    show isDg T N (p + (if isDg T N p = true then dgs T N k (p + 1) + 1 else 0)) = false
    by_cases hd : isDg T N p = true
    · rw [if_pos hd] at h' ⊢
      have := dgs_end T N k (p + 1) (by omega)
      rwa [show p + 1 + dgs T N k (p + 1) = p + (dgs T N k (p + 1) + 1) by omega] at this
    · rw [if_neg hd]
      simpa using hd
theorem isDg_lt {T : Nat → Int32} {N p : Nat} (h : isDg T N p = true) : p < N := by
  simp only [isDg, Bool.and_eq_true, decide_eq_true_eq] at h
  exact h.1
theorem dgs_N {T : Nat → Int32} {N k p : Nat} (hp : p ≤ N) : p + dgs T N k p ≤ N := by
  by_cases h : dgs T N k p = 0
  · omega
  · have := isDg_lt (dgs_in T N k p (dgs T N k p - 1) (by omega)); omega
theorem b01 {b : Bool} (h : ¬ (if b = true then (1 : Int32) else 0) = 0) : b = true := by
  cases b
  · exact absurd rfl h
  · rfl
theorem b00 {b : Bool} (h : (if b = true then (1 : Int32) else 0) = 0) : b = false := by
  cases b
  · rfl
  · exact absurd h (by decide)
theorem bnar (b : Bool) : narrow .boolean (.int (if b = true then (1 : Int32) else 0)) = .int (if b = true then 1 else 0) := by cases b <;> rfl
/-- the text's length and place -/
def CT (m : Mem) (N p : Nat) : Prop := m.1 333 1 = nI N ∧ N ≤ 60 ∧ m.1 333 2 = nI p ∧ p ≤ 60
theorem up_id {m : Mem} {k f : Nat} {v : Int32} (h : m.1 k f = v) : up m k f v = m := by
  refine Prod.ext ?_ rfl
  funext q j
  show (if q = k ∧ j = f then v else m.1 q j) = m.1 q j
  split
  · rename_i e; rw [e.1, e.2, h]
  · rfl
theorem up_up (m : Mem) (k f : Nat) (v w : Int32) : up (up m k f v) k f w = up m k f w := by
  refine Prod.ext ?_ rfl
  funext q j
  show (if q = k ∧ j = f then w else if q = k ∧ j = f then v else m.1 q j) = (if q = k ∧ j = f then w else m.1 q j)
  split <;> rfl
theorem V.p_Cmd_kind {g : xG} {B : BT} {k n : Nat} {Q : State → Prop} {m : Mem} {sz pc : Nat} {ls : List (Option Value)} {st : List Value} {cc : ByteArray} {nL : Nat} {own : String} {ret : Option FieldType} {d mc ms : Nat} (hB : Bd g B cc nL own ret d mc ms) {i kd idx : Nat} (hlink : WD (.fieldLink own idx (TX1 0).1 (TX1 0).2.1 (TX1 0).2.2.1)) (hd : decode cc pc = .ok (.putfield idx, 3)) (hi : i < 12) (hk : kd < 7) (kk : V g B k n Q (hp g (up m (CM i) 0 (nI kd))) sz (pc + 3) ls st) : V g B k n Q (hp g m) sz pc ls (.ref (g.2.2.2 kd) :: .ref (ad g (CM i)) :: st) :=
  V.put hB fk_Cmd 0 hlink hd (by decide) rfl (hp_at (ca_Cmd hi m)) (Nat.le_of_ble_eq_true rfl) rfl rfl (hp_at (by rw [ca_Cmd hi (up m (CM i) 0 (nI kd)), up_same, nI_clamp (by omega), up_slot _ _ _ (by decide)]; rfl)) (hp_up (by unfold CM; omega)) kk
/-- a number is kept while there is room -/
def addM (i l : Nat) (x : Int32) (m : Mem) : Mem := if l < 3 then up (up m (CM i + 1) l x) (CM i) 2 (nI (l + 1)) else m

set_option maxRecDepth 100000 in
set_option maxHeartbeats 4000000 in
theorem c_X1_begin {g : xG} (hG : GK g) {i : Nat} (hi : i < 12) {kd : Nat} (hk : kd < 7) {m : Mem} : CC g yX1_begin (.code yX1_begin cX1_begin 2 none) 1 0 0 [.ref (ad g (CM i)), .ref (g.2.2.2 kd)] m (rV (fun m2 => m2 = up (up m (CM i) 0 (nI kd)) (CM i) 2 0)) noX := by
  refine CC.mk hG RX1 rfl (by decide +kernel) rfl (Nat.le_of_ble_eq_true rfl) (fun sz B hB hX => ?_)
  show V g B 0 0 _ (hp g m) sz 0 [some (.ref (ad g (CM i))), some (.ref (g.2.2.2 kd))] []
  refine V.aload_n (pc := 0) hB dX1_begin_0 rfl ?_
  refine V.aload_n (pc := 1) hB dX1_begin_1 rfl ?_
  refine V.p_Cmd_kind (pc := 2) hB wf_X1_15 dX1_begin_2 hi hk ?_
  refine V.aload_n (pc := 5) hB dX1_begin_5 rfl ?_
  refine V.iconst (pc := 6) (v := 0) hB dX1_begin_6 rfl ?_
  refine V.p_Cmd_numberCount (pc := 7) hB wf_X1_24 dX1_begin_7 (by omega) ?_
  refine V.retV (pc := 10) hB dX1_begin_10 rfl (by omega) (by omega) ?_
  exact rfl

set_option maxRecDepth 100000 in
set_option maxHeartbeats 4000000 in
theorem c_X1_addNumber {g : xG} (hG : GK g) {i l : Nat} (hi : i < 12) {x : Int32} {m : Mem} (hl : m.1 (CM i) 2 = nI (min l 3)) : CC g yX1_addNumber (.code yX1_addNumber cX1_addNumber 2 none) 1 0 0 [.ref (ad g (CM i)), .int x] m (rV (fun m2 => m2 = addM i l x m)) noX := by
  refine CC.mk hG RX1 rfl (by decide +kernel) rfl (Nat.le_of_ble_eq_true rfl) (fun sz B hB hX => ?_)
  show V g B 0 0 _ (hp g m) sz 0 [some (.ref (ad g (CM i))), some (.int x)] []
  refine V.aload_n (pc := 0) hB dX1_addNumber_0 rfl ?_
  refine V.get (pc := 1) hB fk_Cmd 2 wf_X1_24 dX1_addNumber_1 (by decide) (hp_at (ca_Cmd (by omega) _)) rfl ?_
  refine V.iconst (pc := 4) (v := 3) hB dX1_addNumber_4 rfl ?_
  rw [hl]
  refine V.icmp_ge (pc := 5) (tgt := 28) hB dX1_addNumber_5 (by decide) (fun c_5 => ?_) (fun c_5 => ?_)
  · have h3 : 3 ≤ min l 3 := (nI_leI (a := 3) (by omega) (by omega)).mp c_5
    have hv : m = addM i l x m := (if_neg (by omega)).symm
    refine V.retV (pc := 28) hB dX1_addNumber_28 rfl (by omega) (by omega) ?_
    exact hv
  · have h3 : min l 3 < 3 := Nat.not_le.mp (fun z => c_5 ((nI_leI (a := 3) (by omega) (by omega)).mpr z))
    have hmin : min l 3 = l := by omega
    rw [hmin] at hl
    have hv : up (up m (CM i + 1) l x) (CM i) 2 (nI (l + 1)) = addM i l x m := (if_pos (by omega)).symm
    refine V.aload_n (pc := 8) hB dX1_addNumber_8 rfl ?_
    refine V.get (pc := 9) hB fk_Cmd 1 wf_X1_20 dX1_addNumber_9 (by decide) (hp_at (ca_Cmd (by omega) _)) rfl ?_
    refine V.aload_n (pc := 12) hB dX1_addNumber_12 rfl ?_
    refine V.get (pc := 13) hB fk_Cmd 2 wf_X1_24 dX1_addNumber_13 (by decide) (hp_at (ca_Cmd (by omega) _)) rfl ?_
    rw [hl]
    refine V.iload_n (pc := 16) hB dX1_addNumber_16 rfl ?_
    refine V.iastM (pc := 17) hB (ca_CmdN (by omega)) dX1_addNumber_17 (ix_nI (by omega) (by decide)) (by unfold CM; omega) ?_
    refine V.aload_n (pc := 18) hB dX1_addNumber_18 rfl ?_
    refine V.dup (pc := 19) hB dX1_addNumber_19 rfl ?_
    refine V.get (pc := 20) hB fk_Cmd 2 wf_X1_24 dX1_addNumber_20 (by decide) (hp_at (ca_Cmd (by omega) _)) rfl ?_
    rw [up_cell _ _ _ (by omega), hl]
    refine V.iconst (pc := 23) (v := 1) hB dX1_addNumber_23 rfl ?_
    refine V.iadd (pc := 24) hB dX1_addNumber_24 ?_
    rw [nI1]
    refine V.p_Cmd_numberCount (pc := 25) hB wf_X1_24 dX1_addNumber_25 (by omega) ?_
    refine V.retV (pc := 28) hB dX1_addNumber_28 rfl (by omega) (by omega) ?_
    exact hv

set_option maxRecDepth 100000 in
set_option maxHeartbeats 4000000 in
theorem c_X2_isFull {g : xG} (hG : GK g) {m : Mem} {N p : Nat} (hc : CT m N p) : CC g yX2_isFull (.code yX2_isFull cX2_isFull 1 (some .boolean)) 1 0 0 [.ref (ad g 333)] m (rI (fun v m2 => v = (if 60 ≤ N then 1 else 0) ∧ m2 = m)) noX := by
  have hN60 := hc.2.1
  refine CC.mk hG RX2 rfl (by decide +kernel) rfl (Nat.le_of_ble_eq_true rfl) (fun sz B hB hX => ?_)
  show V g B 0 0 _ (hp g m) sz 0 [some (.ref (ad g 333))] []
  refine V.aload_n (pc := 0) hB dX2_isFull_0 rfl ?_
  refine V.get (pc := 1) hB fk_CText 1 wf_X2_15 dX2_isFull_1 (by decide) (hp_at (ca_CText _)) rfl ?_
  refine V.bipush (pc := 4) (v := 60) hB dX2_isFull_4 rfl ?_
  rw [hc.1]
  refine V.icmp_lt (pc := 6) (tgt := 13) hB dX2_isFull_6 (by decide) (fun c_6 => ?_) (fun c_6 => ?_)
  · have hv : ¬ 60 ≤ N := fun z => absurd c_6 (nI_nlt z (by omega))
    refine V.iconst (pc := 13) (v := 0) hB dX2_isFull_13 rfl ?_
    refine V.retI (pc := 14) hB dX2_isFull_14 rfl (rfl) (by omega) (by omega) ?_
    first | exact ⟨(if_pos hv).symm, rfl⟩ | exact ⟨(if_neg hv).symm, rfl⟩
  · have hv : 60 ≤ N := Nat.not_lt.mp (fun z => c_6 (nI_lt z (by decide)))
    refine V.iconst (pc := 9) (v := 1) hB dX2_isFull_9 rfl ?_
    refine V.goto (pc := 10) (tgt := 14) hB dX2_isFull_10 (by decide) ?_
    refine V.retI (pc := 14) hB dX2_isFull_14 rfl (rfl) (by omega) (by omega) ?_
    first | exact ⟨(if_pos hv).symm, rfl⟩ | exact ⟨(if_neg hv).symm, rfl⟩

set_option maxRecDepth 100000 in
set_option maxHeartbeats 4000000 in
theorem c_X2_add {g : xG} (hG : GK g) {m : Mem} {N p : Nat} (hc : CT m N p) (h60 : N < 60) {c : Int32} (hch : fits .char (.int c) = true) : CC g yX2_add (.code yX2_add cX2_add 2 (some .int)) 1 0 0 [.ref (ad g 333), .int c] m (rI (fun v m2 => v = nI (N + 1) ∧ m2 = up (up m 334 N c) 333 1 (nI (N + 1)))) noX := by
  refine CC.mk hG RX2 rfl (by decide +kernel) rfl (Nat.le_of_ble_eq_true rfl) (fun sz B hB hX => ?_)
  show V g B 0 0 _ (hp g m) sz 0 [some (.ref (ad g 333)), some (.int c)] []
  refine V.aload_n (pc := 0) hB dX2_add_0 rfl ?_
  refine V.get (pc := 1) hB fk_CText 0 wf_X2_9 dX2_add_1 (by decide) (hp_at (ca_CText _)) rfl ?_
  refine V.aload_n (pc := 4) hB dX2_add_4 rfl ?_
  refine V.get (pc := 5) hB fk_CText 1 wf_X2_15 dX2_add_5 (by decide) (hp_at (ca_CText _)) rfl ?_
  rw [hc.1]
  refine V.iload_n (pc := 8) hB dX2_add_8 rfl ?_
  refine V.castM (pc := 9) hB (ca_Chars) dX2_add_9 (ix_nI h60 (by decide)) (by decide) (Value.int.inj (fits_nar hch)) ?_
  refine V.aload_n (pc := 10) hB dX2_add_10 rfl ?_
  refine V.dup (pc := 11) hB dX2_add_11 rfl ?_
  refine V.get (pc := 12) hB fk_CText 1 wf_X2_15 dX2_add_12 (by decide) (hp_at (ca_CText _)) rfl ?_
  rw [up_cell _ _ _ (by decide), hc.1]
  refine V.iconst (pc := 15) (v := 1) hB dX2_add_15 rfl ?_
  refine V.iadd (pc := 16) hB dX2_add_16 ?_
  rw [nI1]
  refine V.p_CText_length (pc := 17) hB wf_X2_15 dX2_add_17 ?_
  refine V.aload_n (pc := 20) hB dX2_add_20 rfl ?_
  refine V.get (pc := 21) hB fk_CText 1 wf_X2_15 dX2_add_21 (by decide) (hp_at (ca_CText _)) rfl ?_
  rw [up_same]
  refine V.retI (pc := 24) hB dX2_add_24 rfl (rfl) (by omega) (by omega) ?_
  exact ⟨rfl, rfl⟩

set_option maxRecDepth 100000 in
set_option maxHeartbeats 4000000 in
theorem c_X2_clear {g : xG} (hG : GK g) {m : Mem} : CC g yX2_clear (.code yX2_clear cX2_clear 1 none) 1 0 0 [.ref (ad g 333)] m (rV (fun m2 => m2 = up m 333 1 0)) noX := by
  refine CC.mk hG RX2 rfl (by decide +kernel) rfl (Nat.le_of_ble_eq_true rfl) (fun sz B hB hX => ?_)
  show V g B 0 0 _ (hp g m) sz 0 [some (.ref (ad g 333))] []
  refine V.aload_n (pc := 0) hB dX2_clear_0 rfl ?_
  refine V.iconst (pc := 1) (v := 0) hB dX2_clear_1 rfl ?_
  refine V.p_CText_length (pc := 2) hB wf_X2_15 dX2_clear_2 ?_
  refine V.retV (pc := 5) hB dX2_clear_5 rfl (by omega) (by omega) ?_
  exact rfl

set_option maxRecDepth 100000 in
set_option maxHeartbeats 4000000 in
theorem c_X2_stands {g : xG} (hG : GK g) {m : Mem} {N p : Nat} (hc : CT m N p) {c : Int32} : CC g yX2_stands (.code yX2_stands cX2_stands 2 (some .boolean)) 1 0 0 [.ref (ad g 333), .int c] m (rI (fun v m2 => v = (if stB (m.1 334) N p c = true then 1 else 0) ∧ m2 = m)) noX := by
  have hN60 := hc.2.1
  have hp60 := hc.2.2.2
  refine CC.mk hG RX2 rfl (by decide +kernel) rfl (Nat.le_of_ble_eq_true rfl) (fun sz B hB hX => ?_)
  show V g B 0 0 _ (hp g m) sz 0 [some (.ref (ad g 333)), some (.int c)] []
  refine V.aload_n (pc := 0) hB dX2_stands_0 rfl ?_
  refine V.get (pc := 1) hB fk_CText 2 wf_X2_19 dX2_stands_1 (by decide) (hp_at (ca_CText _)) rfl ?_
  refine V.aload_n (pc := 4) hB dX2_stands_4 rfl ?_
  refine V.get (pc := 5) hB fk_CText 1 wf_X2_15 dX2_stands_5 (by decide) (hp_at (ca_CText _)) rfl ?_
  rw [hc.2.2.1, hc.1]
  refine V.icmp_ge (pc := 8) (tgt := 28) hB dX2_stands_8 (by decide) (fun c_8 => ?_) (fun c_8 => ?_)
  · have hv : stB (m.1 334) N p c = false := stB_f1 ((nI_leI (by omega) (by omega)).mp c_8)
    refine V.iconst (pc := 28) (v := 0) hB dX2_stands_28 rfl ?_
    refine V.retI (pc := 29) hB dX2_stands_29 rfl (rfl) (by omega) (by omega) ?_
    exact ⟨by rw [hv]; rfl, rfl⟩
  · have hlt : p < N := Nat.not_le.mp (fun z => c_8 ((nI_leI (by omega) (by omega)).mpr z))
    refine V.aload_n (pc := 11) hB dX2_stands_11 rfl ?_
    refine V.get (pc := 12) hB fk_CText 0 wf_X2_9 dX2_stands_12 (by decide) (hp_at (ca_CText _)) rfl ?_
    refine V.aload_n (pc := 15) hB dX2_stands_15 rfl ?_
    refine V.get (pc := 16) hB fk_CText 2 wf_X2_19 dX2_stands_16 (by decide) (hp_at (ca_CText _)) rfl ?_
    rw [hc.2.2.1]
    refine V.caldM (pc := 19) hB (ca_Chars) dX2_stands_19 (ix_nI (by omega) (by decide)) ?_
    refine V.iload_n (pc := 20) hB dX2_stands_20 rfl ?_
    refine V.icmp_ne (pc := 21) (tgt := 28) hB dX2_stands_21 (by decide) (fun c_21 => ?_) (fun c_21 => ?_)
    · have hv : stB (m.1 334) N p c = false := stB_f2 c_21
      refine V.iconst (pc := 28) (v := 0) hB dX2_stands_28 rfl ?_
      refine V.retI (pc := 29) hB dX2_stands_29 rfl (rfl) (by omega) (by omega) ?_
      exact ⟨by rw [hv]; rfl, rfl⟩
    · have hv : stB (m.1 334) N p c = true := stB_t hlt c_21
      refine V.iconst (pc := 24) (v := 1) hB dX2_stands_24 rfl ?_
      refine V.goto (pc := 25) (tgt := 29) hB dX2_stands_25 (by decide) ?_
      refine V.retI (pc := 29) hB dX2_stands_29 rfl (rfl) (by omega) (by omega) ?_
      exact ⟨by rw [hv]; rfl, rfl⟩

set_option maxRecDepth 100000 in
set_option maxHeartbeats 4000000 in
theorem c_X2_digitStands {g : xG} (hG : GK g) {m : Mem} {N p : Nat} (hc : CT m N p) : CC g yX2_digitStands (.code yX2_digitStands cX2_digitStands 1 (some .boolean)) 1 0 0 [.ref (ad g 333)] m (rI (fun v m2 => v = (if isDg (m.1 334) N p = true then 1 else 0) ∧ m2 = m)) noX := by
  have hN60 := hc.2.1
  have hp60 := hc.2.2.2
  refine CC.mk hG RX2 rfl (by decide +kernel) rfl (Nat.le_of_ble_eq_true rfl) (fun sz B hB hX => ?_)
  show V g B 0 0 _ (hp g m) sz 0 [some (.ref (ad g 333))] []
  refine V.aload_n (pc := 0) hB dX2_digitStands_0 rfl ?_
  refine V.get (pc := 1) hB fk_CText 2 wf_X2_19 dX2_digitStands_1 (by decide) (hp_at (ca_CText _)) rfl ?_
  refine V.aload_n (pc := 4) hB dX2_digitStands_4 rfl ?_
  refine V.get (pc := 5) hB fk_CText 1 wf_X2_15 dX2_digitStands_5 (by decide) (hp_at (ca_CText _)) rfl ?_
  rw [hc.2.2.1, hc.1]
  refine V.icmp_ge (pc := 8) (tgt := 43) hB dX2_digitStands_8 (by decide) (fun c_8 => ?_) (fun c_8 => ?_)
  · have hge := (nI_leI (by omega) (by omega)).mp c_8
    have hv : isDg (m.1 334) N p = false := by simp [isDg]; intro h; omega
    refine V.iconst (pc := 43) (v := 0) hB dX2_digitStands_43 rfl ?_
    refine V.retI (pc := 44) hB dX2_digitStands_44 rfl (rfl) (by omega) (by omega) ?_
    exact ⟨by rw [hv]; rfl, rfl⟩
  · have hlt : p < N := Nat.not_le.mp (fun z => c_8 ((nI_leI (by omega) (by omega)).mpr z))
    refine V.aload_n (pc := 11) hB dX2_digitStands_11 rfl ?_
    refine V.get (pc := 12) hB fk_CText 0 wf_X2_9 dX2_digitStands_12 (by decide) (hp_at (ca_CText _)) rfl ?_
    refine V.aload_n (pc := 15) hB dX2_digitStands_15 rfl ?_
    refine V.get (pc := 16) hB fk_CText 2 wf_X2_19 dX2_digitStands_16 (by decide) (hp_at (ca_CText _)) rfl ?_
    rw [hc.2.2.1]
    refine V.caldM (pc := 19) hB (ca_Chars) dX2_digitStands_19 (ix_nI (by omega) (by decide)) ?_
    refine V.bipush (pc := 20) (v := 48) hB dX2_digitStands_20 rfl ?_
    refine V.icmp_lt (pc := 22) (tgt := 43) hB dX2_digitStands_22 (by decide) (fun c_22 => ?_) (fun c_22 => ?_)
    · have hv : isDg (m.1 334) N p = false := by simp [isDg]; intro _ h; exact absurd h (Int32.not_le.mpr c_22)
      refine V.iconst (pc := 43) (v := 0) hB dX2_digitStands_43 rfl ?_
      refine V.retI (pc := 44) hB dX2_digitStands_44 rfl (rfl) (by omega) (by omega) ?_
      exact ⟨by rw [hv]; rfl, rfl⟩
    · have h48 := Int32.not_lt.mp c_22
      refine V.aload_n (pc := 25) hB dX2_digitStands_25 rfl ?_
      refine V.get (pc := 26) hB fk_CText 0 wf_X2_9 dX2_digitStands_26 (by decide) (hp_at (ca_CText _)) rfl ?_
      refine V.aload_n (pc := 29) hB dX2_digitStands_29 rfl ?_
      refine V.get (pc := 30) hB fk_CText 2 wf_X2_19 dX2_digitStands_30 (by decide) (hp_at (ca_CText _)) rfl ?_
      rw [hc.2.2.1]
      refine V.caldM (pc := 33) hB (ca_Chars) dX2_digitStands_33 (ix_nI (by omega) (by decide)) ?_
      refine V.bipush (pc := 34) (v := 57) hB dX2_digitStands_34 rfl ?_
      refine V.icmp_gt (pc := 36) (tgt := 43) hB dX2_digitStands_36 (by decide) (fun c_36 => ?_) (fun c_36 => ?_)
      · have hv : isDg (m.1 334) N p = false := by simp [isDg]; intro _ _; exact c_36
        refine V.iconst (pc := 43) (v := 0) hB dX2_digitStands_43 rfl ?_
        refine V.retI (pc := 44) hB dX2_digitStands_44 rfl (rfl) (by omega) (by omega) ?_
        exact ⟨by rw [hv]; rfl, rfl⟩
      · have h57 := Int32.not_lt.mp c_36
        have hv : isDg (m.1 334) N p = true := by simp [isDg]; exact ⟨hlt, h48, h57⟩
        refine V.iconst (pc := 39) (v := 1) hB dX2_digitStands_39 rfl ?_
        refine V.goto (pc := 40) (tgt := 44) hB dX2_digitStands_40 (by decide) ?_
        refine V.retI (pc := 44) hB dX2_digitStands_44 rfl (rfl) (by omega) (by omega) ?_
        exact ⟨by rw [hv]; rfl, rfl⟩

set_option maxRecDepth 100000 in
set_option maxHeartbeats 4000000 in
theorem c_X2_readSign {g : xG} (hG : GK g) {m : Mem} {N p : Nat} (hc : CT m N p) {c : Int32} : CC g yX2_readSign (.code yX2_readSign cX2_readSign 2 (some .boolean)) 2 0 0 [.ref (ad g 333), .int c] m (rI (fun v m2 => v = (if stB (m.1 334) N p c = true then 1 else 0) ∧ m2 = (if stB (m.1 334) N p c = true then up m 333 2 (nI (p + 1)) else m))) noX := by
  refine CC.mk hG RX2 rfl (by decide +kernel) rfl (Nat.le_of_ble_eq_true rfl) (fun sz B hB hX => ?_)
  show V g B 0 0 _ (hp g m) sz 0 [some (.ref (ad g 333)), some (.int c)] []
  refine V.aload_n (pc := 0) hB dX2_readSign_0 rfl ?_
  refine V.iload_n (pc := 1) hB dX2_readSign_1 rfl ?_
  refine V.cv (pc := 2) hB cw_X2_stands wm_X2_60 wi_X2_stands ws_X2_stands dX2_readSign_2 (c_X2_stands hG hc) (hp_at (ca_CText _)) fk_CText rfl (by omega) (by decide) rfl (by exact Nat.le_of_ble_eq_true rfl) (by omega) (by omega) kN (kI (fun v_2 m_2 sz h_2 => ?_)) rfl
  obtain ⟨rfl, rfl⟩ := h_2
  refine V.if_ne (pc := 5) (tgt := 10) hB dX2_readSign_5 (by decide) (fun c_5 => ?_) (fun c_5 => ?_)
  · have hv := b01 c_5
    refine V.aload_n (pc := 10) hB dX2_readSign_10 rfl ?_
    refine V.dup (pc := 11) hB dX2_readSign_11 rfl ?_
    refine V.get (pc := 12) hB fk_CText 2 wf_X2_19 dX2_readSign_12 (by decide) (hp_at (ca_CText _)) rfl ?_
    rw [hc.2.2.1]
    refine V.iconst (pc := 15) (v := 1) hB dX2_readSign_15 rfl ?_
    refine V.iadd (pc := 16) hB dX2_readSign_16 ?_
    rw [nI1]
    refine V.p_CText_position (pc := 17) hB wf_X2_19 dX2_readSign_17 ?_
    refine V.iconst (pc := 20) (v := 1) hB dX2_readSign_20 rfl ?_
    refine V.retI (pc := 21) hB dX2_readSign_21 rfl (rfl) (by omega) (by omega) ?_
    rw [if_pos hv, if_pos hv]
    exact ⟨rfl, rfl⟩
  · have hv := b00 c_5
    refine V.iconst (pc := 8) (v := 0) hB dX2_readSign_8 rfl ?_
    refine V.retI (pc := 9) hB dX2_readSign_9 rfl (rfl) (by omega) (by omega) ?_
    rw [if_neg (by rw [hv]; decide), if_neg (by rw [hv]; decide)]
    exact ⟨rfl, rfl⟩

set_option maxRecDepth 100000 in
set_option maxHeartbeats 4000000 in
theorem c_X2_readNumber {g : xG} (hG : GK g) {i : Nat} (hi : i < 12) {m : Mem} {N p : Nat} (hc : CT m N p) (hpN : p ≤ N) {most : Nat} (hmost : most ≤ 3) {mx fac : Int32} (hmx : mx = nI most) {l : Nat} (hl : m.1 (CM i) 2 = nI (min l 3)) : CC g yX2_readNumber (.code yX2_readNumber cX2_readNumber 6 (some .boolean)) 3 0 0 [.ref (ad g 333), .int mx, .int fac, .ref (ad g (CM i))] m (rI (fun v m2 => v = (if decide (0 < dgs (m.1 334) N most p) = true then 1 else 0) ∧ m2 = addM i l (fac * nmV (m.1 334) p (dgs (m.1 334) N most p)) (up m 333 2 (nI (p + dgs (m.1 334) N most p))))) noX := by
  have hN60 := hc.2.1
  have hdN := dgs_N (T := m.1 334) (k := most) hpN
  have hdle := dgs_le (m.1 334) N most p
  have hcm : CM i ≠ 333 ∧ CM i ≠ 334 := by unfold CM; omega
  refine CC.mk hG RX2 rfl (by decide +kernel) rfl (Nat.le_of_ble_eq_true rfl) (fun sz B hB hX => ?_)
  show V g B 0 0 _ (hp g m) sz 0 [some (.ref (ad g 333)), some (.int mx), some (.int fac), some (.ref (ad g (CM i))), none, none] []
  have loop : ∀ q : Nat, q ≤ dgs (m.1 334) N most p → ∀ (sz : Nat), V g B 0 0 (QM g B 0 0 (rI (fun v m2 => v = (if decide (0 < dgs (m.1 334) N most p) = true then 1 else 0) ∧ m2 = addM i l (fac * nmV (m.1 334) p (dgs (m.1 334) N most p)) (up m 333 2 (nI (p + dgs (m.1 334) N most p))))) noX) (hp g (up m 333 2 (nI (p + q)))) sz 6 [some (.ref (ad g 333)), some (.int (nI most)), some (.int fac), some (.ref (ad g (CM i))), some (.int (nmV (m.1 334) p q)), some (.int (nI q))] [] := by
    refine loop_up (fun q hq ih => ?_)
    intro sz
    have hcq : CT (up m 333 2 (nI (p + q))) N (p + q) := ⟨by rw [up_slot _ _ _ (by decide)]; exact hc.1, hN60, up_same _ _ _ _, by omega⟩
    have h334 : (up m 333 2 (nI (p + q))).1 334 = m.1 334 := up_cell _ _ _ (by decide)
    refine V.iload (pc := 6) hB dX2_readNumber_6 rfl ?_
    refine V.iload_n (pc := 8) hB dX2_readNumber_8 rfl ?_
    refine V.icmp_ge (pc := 9) (tgt := 55) hB dX2_readNumber_9 (by decide) (fun c_9 => ?_) (fun c_9 => ?_)
    · have hqd : q = dgs (m.1 334) N most p := by have := (nI_leI (by omega) (by omega)).mp c_9; omega
      refine V.aload_n (pc := 55) hB dX2_readNumber_55 rfl ?_
      refine V.iload_n (pc := 56) hB dX2_readNumber_56 rfl ?_
      refine V.iload (pc := 57) hB dX2_readNumber_57 rfl ?_
      refine V.imul (pc := 59) hB dX2_readNumber_59 ?_
      refine V.cv (pc := 60) hB cw_X1_addNumber wm_X2_85 wi_X1_addNumber ws_X1_addNumber dX2_readNumber_60 (c_X1_addNumber hG hi (l := l) (by rw [up_cell _ _ _ hcm.1]; exact hl)) (hp_at (ca_Cmd (by omega) _)) fk_Cmd rfl (by omega) (by decide) rfl (by exact Nat.le_of_ble_eq_true rfl) (by omega) (by omega) kN (kV (fun m_60 sz h_60 => ?_)) rfl
      subst h_60
      refine V.iload (pc := 63) hB dX2_readNumber_63 rfl ?_
      refine V.if_le (pc := 65) (tgt := 72) hB dX2_readNumber_65 (by decide) (fun c_65 => ?_) (fun c_65 => ?_)
      · have hv : decide (0 < dgs (m.1 334) N most p) = false := by
          rw [← hqd]
          exact decide_eq_false (fun z => absurd c_65 (nI_nle z (by omega)))
        refine V.iconst (pc := 72) (v := 0) hB dX2_readNumber_72 rfl ?_
        refine V.retI (pc := 73) hB dX2_readNumber_73 rfl (rfl) (by omega) (by omega) ?_
        refine ⟨by rw [hv]; rfl, ?_⟩
        rw [← hqd]
      · have hv : decide (0 < dgs (m.1 334) N most p) = true := by
          rw [← hqd]
          exact decide_eq_true (Nat.pos_of_ne_zero (fun z => c_65 (by rw [z]; decide)))
        refine V.iconst (pc := 68) (v := 1) hB dX2_readNumber_68 rfl ?_
        refine V.goto (pc := 69) (tgt := 73) hB dX2_readNumber_69 (by decide) ?_
        refine V.retI (pc := 73) hB dX2_readNumber_73 rfl (rfl) (by omega) (by omega) ?_
        refine ⟨by rw [hv]; rfl, ?_⟩
        rw [← hqd]
    · have hqm : q < most := Nat.not_le.mp (fun z => c_9 ((nI_leI (by omega) (by omega)).mpr z))
      refine V.aload_n (pc := 12) hB dX2_readNumber_12 rfl ?_
      refine V.cv (pc := 13) hB cw_X2_digitStands wm_X2_82 wi_X2_digitStands ws_X2_digitStands dX2_readNumber_13 (c_X2_digitStands hG hcq) (hp_at (ca_CText _)) fk_CText rfl (by omega) (by decide) rfl (by exact Nat.le_of_ble_eq_true rfl) (by omega) (by omega) kN (kI (fun v_13 m_13 sz h_13 => ?_)) rfl
      obtain ⟨rfl, rfl⟩ := h_13
      rw [h334]
      refine V.if_eq (pc := 16) (tgt := 55) hB dX2_readNumber_16 (by decide) (fun c_16 => ?_) (fun c_16 => ?_)
      · have hqd : q = dgs (m.1 334) N most p := by
          have hv := b00 c_16
          by_cases z : q < dgs (m.1 334) N most p
          · rw [dgs_in _ _ _ _ _ z] at hv; cases hv
          · omega
        refine V.aload_n (pc := 55) hB dX2_readNumber_55 rfl ?_
        refine V.iload_n (pc := 56) hB dX2_readNumber_56 rfl ?_
        refine V.iload (pc := 57) hB dX2_readNumber_57 rfl ?_
        refine V.imul (pc := 59) hB dX2_readNumber_59 ?_
        refine V.cv (pc := 60) hB cw_X1_addNumber wm_X2_85 wi_X1_addNumber ws_X1_addNumber dX2_readNumber_60 (c_X1_addNumber hG hi (l := l) (by rw [up_cell _ _ _ hcm.1]; exact hl)) (hp_at (ca_Cmd (by omega) _)) fk_Cmd rfl (by omega) (by decide) rfl (by exact Nat.le_of_ble_eq_true rfl) (by omega) (by omega) kN (kV (fun m_60 sz h_60 => ?_)) rfl
        subst h_60
        refine V.iload (pc := 63) hB dX2_readNumber_63 rfl ?_
        refine V.if_le (pc := 65) (tgt := 72) hB dX2_readNumber_65 (by decide) (fun c_65 => ?_) (fun c_65 => ?_)
        · have hv : decide (0 < dgs (m.1 334) N most p) = false := by
            rw [← hqd]
            exact decide_eq_false (fun z => absurd c_65 (nI_nle z (by omega)))
          refine V.iconst (pc := 72) (v := 0) hB dX2_readNumber_72 rfl ?_
          refine V.retI (pc := 73) hB dX2_readNumber_73 rfl (rfl) (by omega) (by omega) ?_
          refine ⟨by rw [hv]; rfl, ?_⟩
          rw [← hqd]
        · have hv : decide (0 < dgs (m.1 334) N most p) = true := by
            rw [← hqd]
            exact decide_eq_true (Nat.pos_of_ne_zero (fun z => c_65 (by rw [z]; decide)))
          refine V.iconst (pc := 68) (v := 1) hB dX2_readNumber_68 rfl ?_
          refine V.goto (pc := 69) (tgt := 73) hB dX2_readNumber_69 (by decide) ?_
          refine V.retI (pc := 73) hB dX2_readNumber_73 rfl (rfl) (by omega) (by omega) ?_
          refine ⟨by rw [hv]; rfl, ?_⟩
          rw [← hqd]
      · have hv := b01 c_16
        have hlt : q < dgs (m.1 334) N most p := by
          by_cases z : q < dgs (m.1 334) N most p
          · exact z
          · have hqd : q = dgs (m.1 334) N most p := by omega
            have hend := dgs_end (m.1 334) N most p (by omega)
            rw [← hqd, hv] at hend
            cases hend
        have hpq := isDg_lt hv
        refine V.iload (pc := 19) hB dX2_readNumber_19 rfl ?_
        refine V.bipush (pc := 21) (v := 10) hB dX2_readNumber_21 rfl ?_
        refine V.imul (pc := 23) hB dX2_readNumber_23 ?_
        refine V.aload_n (pc := 24) hB dX2_readNumber_24 rfl ?_
        refine V.get (pc := 25) hB fk_CText 0 wf_X2_9 dX2_readNumber_25 (by decide) (hp_at (ca_CText _)) rfl ?_
        refine V.aload_n (pc := 28) hB dX2_readNumber_28 rfl ?_
        refine V.get (pc := 29) hB fk_CText 2 wf_X2_19 dX2_readNumber_29 (by decide) (hp_at (ca_CText _)) rfl ?_
        rw [up_same]
        refine V.caldM (pc := 32) hB (ca_Chars) dX2_readNumber_32 (ix_nI (by omega) (by decide)) ?_
        rw [h334]
        refine V.bipush (pc := 33) (v := 48) hB dX2_readNumber_33 rfl ?_
        refine V.isub (pc := 35) hB dX2_readNumber_35 ?_
        refine V.iadd (pc := 36) hB dX2_readNumber_36 ?_
        refine V.istore (pc := 37) hB dX2_readNumber_37 (by decide) rfl ?_
        refine V.aload_n (pc := 39) hB dX2_readNumber_39 rfl ?_
        refine V.dup (pc := 40) hB dX2_readNumber_40 rfl ?_
        refine V.get (pc := 41) hB fk_CText 2 wf_X2_19 dX2_readNumber_41 (by decide) (hp_at (ca_CText _)) rfl ?_
        rw [up_same]
        refine V.iconst (pc := 44) (v := 1) hB dX2_readNumber_44 rfl ?_
        refine V.iadd (pc := 45) hB dX2_readNumber_45 ?_
        rw [nI1, show p + q + 1 = p + (q + 1) by omega]
        refine V.p_CText_position (pc := 46) hB wf_X2_19 dX2_readNumber_46 ?_
        rw [up_up]
        refine V.iinc (pc := 49) (v := nI (q + 1)) hB dX2_readNumber_49 rfl (nI_1 _) (by decide) rfl ?_
        refine V.goto (pc := 52) (tgt := 6) hB dX2_readNumber_52 (by decide) ?_
        exact ih hlt sz
  subst hmx
  refine V.iconst (pc := 0) (v := 0) hB dX2_readNumber_0 rfl ?_
  refine V.istore (pc := 1) hB dX2_readNumber_1 (by decide) rfl ?_
  refine V.iconst (pc := 3) (v := 0) hB dX2_readNumber_3 rfl ?_
  refine V.istore (pc := 4) hB dX2_readNumber_4 (by decide) rfl ?_
  refine V.mem (m2 := up m 333 2 (nI (p + 0))) (up_id hc.2.2.1).symm ?_
  exact loop 0 (by omega) sz
