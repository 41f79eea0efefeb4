/-! the reference: its row of numbers, its small methods -/
def mL (R : Nat → Int32) : Nat := (R 2).toNatClampNeg
def mY (R : Nat → Int32) (j : Nat) : Nat := (R (9 + 27 * j)).toNatClampNeg
def mN (R : Nat → Int32) : Nat := (R 3).toNatClampNeg
def mP (R : Nat → Int32) : Nat := (R 4).toNatClampNeg
/-- the row's counts lie in their bounds -/
def MW (R : Nat → Int32) : Prop := (R 2 = nI (mL R) ∧ mL R ≤ 5) ∧ (∀ j, j < 5 → R (9 + 27 * j) = nI (mY R j) ∧ mY R j ≤ 8) ∧ (R 3 = nI (mN R) ∧ mN R ≤ 6) ∧ (R 4 = nI (mP R) ∧ mP R ≤ 16)
def islB (R : Nat → Int32) (x : Int32) : Bool := decide (0 ≤ x) && decide (x < nI (mL R))
def lkI (R : Nat → Int32) (x : Int32) : Nat := if islB R x = true then x.toNatClampNeg else 0
def isyB (R : Nat → Int32) (x y : Int32) : Bool := islB R x && (decide (0 ≤ y) && decide (y < nI (mY R (lkI R x))))
def lpI (R : Nat → Int32) (x y : Int32) : Nat := if isyB R x y = true then 10 + 27 * x.toNatClampNeg + 3 * y.toNatClampNeg else 10
def ofV (R : Nat → Int32) (x : Int32) (k : Nat) : Int32 := R (7 + 27 * lkI R x + k)
def olV (R : Nat → Int32) (x y : Int32) (k : Nat) : Int32 := R (lpI R x y + k)
def iceR (R : Nat → Int32) (x : Int32) : Int32 := l_sum (fun y => olV R x (nI y) 0) (mY R (lkI R x))
theorem islB_in {R : Nat → Int32} {x : Int32} (h : islB R x = true) : 0 ≤ x ∧ x < nI (mL R) := by simpa [islB] using h
theorem islB_j {R : Nat → Int32} {j : Nat} (h : j < mL R) (h5 : mL R ≤ 5) : islB R (nI j) = true := by
  simp only [islB, Bool.and_eq_true, decide_eq_true_eq]
  exact ⟨nI_pos' (by omega), nI_lt h (by omega)⟩
theorem lkI_j {R : Nat → Int32} {j : Nat} (h : j < mL R) (h5 : mL R ≤ 5) : lkI R (nI j) = j := by
  unfold lkI; rw [if_pos (islB_j h h5), nI_clamp (by omega)]
theorem lkI_5 {R : Nat → Int32} (h : MW R) (x : Int32) : lkI R x < 5 := by
  unfold lkI
  split
  · rename_i hb
    have h1 := islB_in hb
    have h5 := h.1.2
    obtain ⟨j, rfl, hj, hjc⟩ := idx_j h1 (by omega)
    rw [hjc]; omega
  · omega
theorem isyB_j {R : Nat → Int32} {j y : Nat} (h : j < mL R) (h5 : mL R ≤ 5) (hy : y < mY R j) (h8 : mY R j ≤ 8) : isyB R (nI j) (nI y) = true := by
  unfold isyB
  rw [islB_j h h5, lkI_j h h5]
  simp only [Bool.true_and, Bool.and_eq_true, decide_eq_true_eq]
  exact ⟨nI_pos' (by omega), nI_lt hy (by omega)⟩
theorem olV_j {R : Nat → Int32} {j y k : Nat} (h : j < mL R) (h5 : mL R ≤ 5) (hy : y < mY R j) (h8 : mY R j ≤ 8) : olV R (nI j) (nI y) k = R (10 + 27 * j + 3 * y + k) := by
  unfold olV lpI
  rw [if_pos (isyB_j h h5 hy h8), nI_clamp (by omega), nI_clamp (by omega)]
theorem ofV_j {R : Nat → Int32} {j k : Nat} (h : j < mL R) (h5 : mL R ≤ 5) : ofV R (nI j) k = R (7 + 27 * j + k) := by
  unfold ofV; rw [lkI_j h h5]
theorem nI_mulN (a b : Nat) : nI a * nI b = nI (a * b) := by
  apply Int32.toBitVec_inj.mp
  simp [nI]
theorem le_sub1 {x : Int32} {n : Nat} (hn : n ≤ 1000) : x ≤ nI n - 1 ↔ x < nI n := by
  have h : (nI n - nI 1).toInt = (n : Int) - 1 := pk_sub_toInt (by omega) (by omega)
  rw [Int32.le_iff_toInt_le, Int32.lt_iff_toInt_lt, show nI n - 1 = nI n - nI 1 from rfl, h, nI_toInt (by omega)]
  omega
theorem ix7 (a k : Nat) : (7 : Int32) + 27 * nI a + nI k = nI (7 + 27 * a + k) := by
  rw [show (27 : Int32) = nI 27 from rfl, nI_mulN, show (7 : Int32) = nI 7 from rfl, nI_add, nI_add]
theorem ixL (j y : Nat) : (7 : Int32) + 27 * nI j + 3 + 3 * nI y = nI (10 + 27 * j + 3 * y) := by
  rw [show (27 : Int32) = nI 27 from rfl, nI_mulN, show (7 : Int32) = nI 7 from rfl, nI_add, show (3 : Int32) = nI 3 from rfl, nI_add, nI_mulN, nI_add]
  congr 1; omega
/-- the first condition that fails -/
def thrV (a b c d : Int32) : Int32 := if a = 0 then 1 else if b = 0 then 2 else if c = 0 then 3 else if d = 0 then 4 else 0
def cpRow (f t : Nat → Int32) (a b : Nat) : Nat → Int32 := fun y => if b ≤ y ∧ y < b + 218 then f (a + (y - b)) else t y
theorem cpRow_part {f t : Nat → Int32} {a b q : Nat} (hq : q < 218) : upd (fun y => if b ≤ y ∧ y < b + q then f (a + (y - b)) else t y) (b + q) (f (a + q)) = fun y => if b ≤ y ∧ y < b + (q + 1) then f (a + (y - b)) else t y := by
  funext y
  unfold upd
  by_cases h : y = b + q
  · subst h
    rw [if_pos rfl, if_pos (by omega)]
    congr 1; omega
  · rw [if_neg h]
    dsimp only
    by_cases h2 : b ≤ y ∧ y < b + q
    · rw [if_pos h2, if_pos (by omega)]
    · rw [if_neg h2, if_neg (by omega)]

set_option maxRecDepth 100000 in
set_option maxHeartbeats 1000000 in
theorem c_X10_isIn {g : xG} (hG : GK g) {x lo hi : Int32} {m : Mem} : CC g yX10_isIn (.code yX10_isIn cX10_isIn 3 (some .boolean)) 1 0 0 [.int x, .int lo, .int hi] m (rI (fun v m2 => v = (if (decide (lo ≤ x) && decide (x ≤ hi)) = true then 1 else 0) ∧ m2 = m)) noX := by
  refine CC.mk hG RX10 rfl (by decide +kernel) rfl (Nat.le_of_ble_eq_true rfl) (fun sz B hB hX => ?_)
  show V g B 0 0 _ (hp g m) sz 0 [some (.int x), some (.int lo), some (.int hi)] []
  refine V.iload_n (pc := 0) hB dX10_isIn_0 rfl ?_
  refine V.iload_n (pc := 1) hB dX10_isIn_1 rfl ?_
  refine V.icmp_lt (pc := 2) (tgt := 14) hB dX10_isIn_2 (by decide) (fun c_2 => ?_) (fun c_2 => ?_)
  · have hv : (decide (lo ≤ x) && decide (x ≤ hi)) = false := by rw [decide_eq_false (Int32.not_le.mpr c_2)]; rfl
    refine V.iconst (pc := 14) (v := 0) hB dX10_isIn_14 rfl ?_
    refine V.retI (pc := 15) hB dX10_isIn_15 rfl (rfl) (by omega) (by omega) ?_
    exact ⟨by rw [hv]; rfl, rfl⟩
  · have h1 := Int32.not_lt.mp c_2
    refine V.iload_n (pc := 5) hB dX10_isIn_5 rfl ?_
    refine V.iload_n (pc := 6) hB dX10_isIn_6 rfl ?_
    refine V.icmp_gt (pc := 7) (tgt := 14) hB dX10_isIn_7 (by decide) (fun c_7 => ?_) (fun c_7 => ?_)
    · have hv : (decide (lo ≤ x) && decide (x ≤ hi)) = false := by rw [decide_eq_false (Int32.not_le.mpr c_7)]; exact Bool.and_false _
      refine V.iconst (pc := 14) (v := 0) hB dX10_isIn_14 rfl ?_
      refine V.retI (pc := 15) hB dX10_isIn_15 rfl (rfl) (by omega) (by omega) ?_
      exact ⟨by rw [hv]; rfl, rfl⟩
    · have hv : (decide (lo ≤ x) && decide (x ≤ hi)) = true := by rw [decide_eq_true h1, decide_eq_true (Int32.not_lt.mp c_7)]; rfl
      refine V.iconst (pc := 10) (v := 1) hB dX10_isIn_10 rfl ?_
      refine V.goto (pc := 11) (tgt := 15) hB dX10_isIn_11 (by decide) ?_
      refine V.retI (pc := 15) hB dX10_isIn_15 rfl (rfl) (by omega) (by omega) ?_
      exact ⟨by rw [hv]; rfl, rfl⟩

set_option maxRecDepth 100000 in
set_option maxHeartbeats 1000000 in
theorem c_X10_copies {g : xG} (hG : GK g) {k0 k1 N0 N1 a b : Nat} (hne : k0 ≠ k1) (h361 : k1 ≠ 361) (he0 : ∀ m : Mem, cellAt g m k0 = some (.inl (g.2.2.1 0, N0, .inl (m.1 k0)))) (he1 : ∀ m : Mem, cellAt g m k1 = some (.inl (g.2.2.1 0, N1, .inl (m.1 k1)))) (ha : a + 218 ≤ N0) (hb : b + 218 ≤ N1) (hN : N0 ≤ 5000 ∧ N1 ≤ 5000) {xa xb : Int32} (hxa : xa = nI a) (hxb : xb = nI b) {m : Mem} : CC g yX10_copies (.code yX10_copies cX10_copies 5 none) 1 0 0 [.ref (ad g k0), .int xa, .ref (ad g k1), .int xb] m (rV (fun m2 => m2 = setRow m k1 (cpRow (m.1 k0) (m.1 k1) a b))) noX := by
  refine CC.mk hG RX10 rfl (by decide +kernel) rfl (Nat.le_of_ble_eq_true rfl) (fun sz B hB hX => ?_)
  show V g B 0 0 _ (hp g m) sz 0 [some (.ref (ad g k0)), some (.int xa), some (.ref (ad g k1)), some (.int xb), none] []
  have loop : ∀ q : Nat, q ≤ 218 → ∀ (sz : Nat), V g B 0 0 (QM g B 0 0 (rV (fun m2 => m2 = setRow m k1 (cpRow (m.1 k0) (m.1 k1) a b))) noX) (hp g (setRow m k1 (fun y => if b ≤ y ∧ y < b + q then m.1 k0 (a + (y - b)) else m.1 k1 y))) sz 3 [some (.ref (ad g k0)), some (.int (nI a)), some (.ref (ad g k1)), some (.int (nI b)), some (.int (nI q))] [] := by
    refine loop_up (fun q hq ih => ?_)
    intro sz
    refine V.iload (pc := 3) hB dX10_copies_3 rfl ?_
    refine V.sipush (pc := 5) (v := 218) hB dX10_copies_5 rfl ?_
    refine V.icmp_ge (pc := 8) (tgt := 29) hB dX10_copies_8 (by decide) (fun c_8 => ?_) (fun c_8 => ?_)
    · have hq2 : q = 218 := by have := (nI_leI (a := 218) (by decide) (by omega)).mp c_8; omega
      subst hq2
      refine V.retV (pc := 29) hB dX10_copies_29 rfl (by omega) (by omega) ?_
      rfl
    · have hlt : q < 218 := Nat.not_le.mp (fun z => c_8 ((nI_leI (a := 218) (by decide) (by omega)).mpr z))
      refine V.aload_n (pc := 11) hB dX10_copies_11 rfl ?_
      refine V.iload_n (pc := 12) hB dX10_copies_12 rfl ?_
      refine V.iload (pc := 13) hB dX10_copies_13 rfl ?_
      refine V.iadd (pc := 15) hB dX10_copies_15 ?_
      rw [nI_add]
      refine V.aload_n (pc := 16) hB dX10_copies_16 rfl ?_
      refine V.iload_n (pc := 17) hB dX10_copies_17 rfl ?_
      refine V.iload (pc := 18) hB dX10_copies_18 rfl ?_
      refine V.iadd (pc := 20) hB dX10_copies_20 ?_
      rw [nI_add]
      refine V.ialdM (pc := 21) hB he0 dX10_copies_21 (ix_nI (by omega) (by omega)) ?_
      rw [setRow_cell _ _ hne]
      refine V.iastM (pc := 22) hB he1 dX10_copies_22 (ix_nI (by omega) (by omega)) h361 ?_
      rw [up_eq, setRow_same, setRow_set, cpRow_part hlt]
      refine V.iinc (pc := 23) (v := nI (q + 1)) hB dX10_copies_23 rfl (nI_1 _) (by decide) rfl ?_
      refine V.goto (pc := 26) (tgt := 3) hB dX10_copies_26 (by decide) ?_
      exact ih hlt sz
  subst hxa
  subst hxb
  refine V.iconst (pc := 0) (v := 0) hB dX10_copies_0 rfl ?_
  refine V.istore (pc := 1) hB dX10_copies_1 (by decide) rfl ?_
  refine V.mem (m2 := setRow m k1 (fun y => if b ≤ y ∧ y < b + 0 then m.1 k0 (a + (y - b)) else m.1 k1 y)) ?_ (loop 0 (by omega) sz)
  rw [show (fun y => if b ≤ y ∧ y < b + 0 then m.1 k0 (a + (y - b)) else m.1 k1 y) = m.1 k1 from funext (fun y => if_neg (by omega)), setRow_id]

set_option maxRecDepth 100000 in
set_option maxHeartbeats 1000000 in
theorem c_X10_holds {g : xG} (hG : GK g) {a b c e : Int32} {m : Mem} : CC g yX10_holds (.code yX10_holds cX10_holds 5 (some .boolean)) 1 0 0 [.ref (ad g 363), .int a, .int b, .int c, .int e] m (rI (fun v m2 => v = (if thrV a b c e = 0 then 1 else 0) ∧ m2 = up m 363 15 (thrV a b c e))) noX := by
  refine CC.mk hG RX10 rfl (by decide +kernel) rfl (Nat.le_of_ble_eq_true rfl) (fun sz B hB hX => ?_)
  show V g B 0 0 _ (hp g m) sz 0 [some (.ref (ad g 363)), some (.int a), some (.int b), some (.int c), some (.int e)] []
  refine V.aload_n (pc := 0) hB dX10_holds_0 rfl ?_
  refine V.iload_n (pc := 1) hB dX10_holds_1 rfl ?_
  refine V.if_ne (pc := 2) (tgt := 9) hB dX10_holds_2 (by decide) (fun c_2 => ?_) (fun c_2 => ?_)
  · refine V.iload_n (pc := 9) hB dX10_holds_9 rfl ?_
    refine V.if_ne (pc := 10) (tgt := 17) hB dX10_holds_10 (by decide) (fun c_10 => ?_) (fun c_10 => ?_)
    · refine V.iload_n (pc := 17) hB dX10_holds_17 rfl ?_
      refine V.if_ne (pc := 18) (tgt := 25) hB dX10_holds_18 (by decide) (fun c_18 => ?_) (fun c_18 => ?_)
      · refine V.iload (pc := 25) hB dX10_holds_25 rfl ?_
        refine V.if_ne (pc := 27) (tgt := 34) hB dX10_holds_27 (by decide) (fun c_27 => ?_) (fun c_27 => ?_)
        · have hv : thrV a b c e = 0 := (if_neg c_2).trans ((if_neg c_10).trans ((if_neg c_18).trans (if_neg c_27)))
          refine V.iconst (pc := 34) (v := 0) hB dX10_holds_34 rfl ?_
          refine V.p_Model_f15 (pc := 35) hB wf_X10_44 dX10_holds_35 ?_
          refine V.aload_n (pc := 38) hB dX10_holds_38 rfl ?_
          refine V.get (pc := 39) hB fk_Model 15 wf_X10_44 dX10_holds_39 (by decide) (hp_at (ca_Model _)) rfl ?_
          rw [up_same]
          refine V.if_ne (pc := 42) (tgt := 49) hB dX10_holds_42 (by decide) (fun c_42 => ?_) (fun c_42 => ?_)
          · refine V.iconst (pc := 49) (v := 0) hB dX10_holds_49 rfl ?_
            refine V.retI (pc := 50) hB dX10_holds_50 rfl (rfl) (by omega) (by omega) ?_
            first
            | exact absurd rfl c_42
            | exact absurd c_42 (by decide)
            | exact ⟨by rw [hv]; rfl, by rw [hv]⟩
          · refine V.iconst (pc := 45) (v := 1) hB dX10_holds_45 rfl ?_
            refine V.goto (pc := 46) (tgt := 50) hB dX10_holds_46 (by decide) ?_
            refine V.retI (pc := 50) hB dX10_holds_50 rfl (rfl) (by omega) (by omega) ?_
            first
            | exact absurd rfl c_42
            | exact absurd c_42 (by decide)
            | exact ⟨by rw [hv]; rfl, by rw [hv]⟩
        · have hv : thrV a b c e = 4 := (if_neg c_2).trans ((if_neg c_10).trans ((if_neg c_18).trans (if_pos c_27)))
          refine V.iconst (pc := 30) (v := 4) hB dX10_holds_30 rfl ?_
          refine V.goto (pc := 31) (tgt := 35) hB dX10_holds_31 (by decide) ?_
          refine V.p_Model_f15 (pc := 35) hB wf_X10_44 dX10_holds_35 ?_
          refine V.aload_n (pc := 38) hB dX10_holds_38 rfl ?_
          refine V.get (pc := 39) hB fk_Model 15 wf_X10_44 dX10_holds_39 (by decide) (hp_at (ca_Model _)) rfl ?_
          rw [up_same]
          refine V.if_ne (pc := 42) (tgt := 49) hB dX10_holds_42 (by decide) (fun c_42 => ?_) (fun c_42 => ?_)
          · refine V.iconst (pc := 49) (v := 0) hB dX10_holds_49 rfl ?_
            refine V.retI (pc := 50) hB dX10_holds_50 rfl (rfl) (by omega) (by omega) ?_
            first
            | exact absurd rfl c_42
            | exact absurd c_42 (by decide)
            | exact ⟨by rw [hv]; rfl, by rw [hv]⟩
          · refine V.iconst (pc := 45) (v := 1) hB dX10_holds_45 rfl ?_
            refine V.goto (pc := 46) (tgt := 50) hB dX10_holds_46 (by decide) ?_
            refine V.retI (pc := 50) hB dX10_holds_50 rfl (rfl) (by omega) (by omega) ?_
            first
            | exact absurd rfl c_42
            | exact absurd c_42 (by decide)
            | exact ⟨by rw [hv]; rfl, by rw [hv]⟩
      · have hv : thrV a b c e = 3 := (if_neg c_2).trans ((if_neg c_10).trans (if_pos c_18))
        refine V.iconst (pc := 21) (v := 3) hB dX10_holds_21 rfl ?_
        refine V.goto (pc := 22) (tgt := 35) hB dX10_holds_22 (by decide) ?_
        refine V.p_Model_f15 (pc := 35) hB wf_X10_44 dX10_holds_35 ?_
        refine V.aload_n (pc := 38) hB dX10_holds_38 rfl ?_
        refine V.get (pc := 39) hB fk_Model 15 wf_X10_44 dX10_holds_39 (by decide) (hp_at (ca_Model _)) rfl ?_
        rw [up_same]
        refine V.if_ne (pc := 42) (tgt := 49) hB dX10_holds_42 (by decide) (fun c_42 => ?_) (fun c_42 => ?_)
        · refine V.iconst (pc := 49) (v := 0) hB dX10_holds_49 rfl ?_
          refine V.retI (pc := 50) hB dX10_holds_50 rfl (rfl) (by omega) (by omega) ?_
          first
          | exact absurd rfl c_42
          | exact absurd c_42 (by decide)
          | exact ⟨by rw [hv]; rfl, by rw [hv]⟩
        · refine V.iconst (pc := 45) (v := 1) hB dX10_holds_45 rfl ?_
          refine V.goto (pc := 46) (tgt := 50) hB dX10_holds_46 (by decide) ?_
          refine V.retI (pc := 50) hB dX10_holds_50 rfl (rfl) (by omega) (by omega) ?_
          first
          | exact absurd rfl c_42
          | exact absurd c_42 (by decide)
          | exact ⟨by rw [hv]; rfl, by rw [hv]⟩
    · have hv : thrV a b c e = 2 := (if_neg c_2).trans (if_pos c_10)
      refine V.iconst (pc := 13) (v := 2) hB dX10_holds_13 rfl ?_
      refine V.goto (pc := 14) (tgt := 35) hB dX10_holds_14 (by decide) ?_
      refine V.p_Model_f15 (pc := 35) hB wf_X10_44 dX10_holds_35 ?_
      refine V.aload_n (pc := 38) hB dX10_holds_38 rfl ?_
      refine V.get (pc := 39) hB fk_Model 15 wf_X10_44 dX10_holds_39 (by decide) (hp_at (ca_Model _)) rfl ?_
      rw [up_same]
      refine V.if_ne (pc := 42) (tgt := 49) hB dX10_holds_42 (by decide) (fun c_42 => ?_) (fun c_42 => ?_)
      · refine V.iconst (pc := 49) (v := 0) hB dX10_holds_49 rfl ?_
        refine V.retI (pc := 50) hB dX10_holds_50 rfl (rfl) (by omega) (by omega) ?_
        first
        | exact absurd rfl c_42
        | exact absurd c_42 (by decide)
        | exact ⟨by rw [hv]; rfl, by rw [hv]⟩
      · refine V.iconst (pc := 45) (v := 1) hB dX10_holds_45 rfl ?_
        refine V.goto (pc := 46) (tgt := 50) hB dX10_holds_46 (by decide) ?_
        refine V.retI (pc := 50) hB dX10_holds_50 rfl (rfl) (by omega) (by omega) ?_
        first
        | exact absurd rfl c_42
        | exact absurd c_42 (by decide)
        | exact ⟨by rw [hv]; rfl, by rw [hv]⟩
  · have hv : thrV a b c e = 1 := if_pos c_2
    refine V.iconst (pc := 5) (v := 1) hB dX10_holds_5 rfl ?_
    refine V.goto (pc := 6) (tgt := 35) hB dX10_holds_6 (by decide) ?_
    refine V.p_Model_f15 (pc := 35) hB wf_X10_44 dX10_holds_35 ?_
    refine V.aload_n (pc := 38) hB dX10_holds_38 rfl ?_
    refine V.get (pc := 39) hB fk_Model 15 wf_X10_44 dX10_holds_39 (by decide) (hp_at (ca_Model _)) rfl ?_
    rw [up_same]
    refine V.if_ne (pc := 42) (tgt := 49) hB dX10_holds_42 (by decide) (fun c_42 => ?_) (fun c_42 => ?_)
    · refine V.iconst (pc := 49) (v := 0) hB dX10_holds_49 rfl ?_
      refine V.retI (pc := 50) hB dX10_holds_50 rfl (rfl) (by omega) (by omega) ?_
      first
      | exact absurd rfl c_42
      | exact absurd c_42 (by decide)
      | exact ⟨by rw [hv]; rfl, by rw [hv]⟩
    · refine V.iconst (pc := 45) (v := 1) hB dX10_holds_45 rfl ?_
      refine V.goto (pc := 46) (tgt := 50) hB dX10_holds_46 (by decide) ?_
      refine V.retI (pc := 50) hB dX10_holds_50 rfl (rfl) (by omega) (by omega) ?_
      first
      | exact absurd rfl c_42
      | exact absurd c_42 (by decide)
      | exact ⟨by rw [hv]; rfl, by rw [hv]⟩

set_option maxRecDepth 100000 in
set_option maxHeartbeats 1000000 in
theorem c_X10_goes {g : xG} (hG : GK g) {a : Int32} {m : Mem} : CC g yX10_goes (.code yX10_goes cX10_goes 2 (some .boolean)) 2 0 0 [.ref (ad g 363), .int a] m (rI (fun v m2 => v = (if thrV a 1 1 1 = 0 then 1 else 0) ∧ m2 = up m 363 15 (thrV a 1 1 1))) noX := by
  have hnr : narrow .boolean (.int (if thrV a 1 1 1 = 0 then 1 else 0)) = .int (if thrV a 1 1 1 = 0 then 1 else 0) := by split <;> rfl
  refine CC.mk hG RX10 rfl (by decide +kernel) rfl (Nat.le_of_ble_eq_true rfl) (fun sz B hB hX => ?_)
  show V g B 0 0 _ (hp g m) sz 0 [some (.ref (ad g 363)), some (.int a)] []
  refine V.aload_n (pc := 0) hB dX10_goes_0 rfl ?_
  refine V.iload_n (pc := 1) hB dX10_goes_1 rfl ?_
  refine V.iconst (pc := 2) (v := 1) hB dX10_goes_2 rfl ?_
  refine V.iconst (pc := 3) (v := 1) hB dX10_goes_3 rfl ?_
  refine V.iconst (pc := 4) (v := 1) hB dX10_goes_4 rfl ?_
  refine V.cv (pc := 5) hB cw_X10_holds wm_X10_47 wi_X10_holds ws_X10_holds dX10_goes_5 (c_X10_holds hG) (hp_at (ca_Model _)) fk_Model rfl (by omega) (by decide) rfl (by exact Nat.le_of_ble_eq_true rfl) (by omega) (by omega) kN (kI (fun v_5 m_5 sz h_5 => ?_)) rfl
  obtain ⟨rfl, rfl⟩ := h_5
  refine V.retI (pc := 8) hB dX10_goes_8 rfl (hnr) (by omega) (by omega) ?_
  exact ⟨rfl, rfl⟩

set_option maxRecDepth 100000 in
set_option maxHeartbeats 1000000 in
theorem c_X10_begins {g : xG} (hG : GK g) {m : Mem} : CC g yX10_begins (.code yX10_begins cX10_begins 1 none) 2 0 0 [.ref (ad g 363)] m (rV (fun m2 => m2 = setRow m 365 (cpRow (m.1 364) (m.1 365) 0 0))) noX := by
  refine CC.mk hG RX10 rfl (by decide +kernel) rfl (Nat.le_of_ble_eq_true rfl) (fun sz B hB hX => ?_)
  show V g B 0 0 _ (hp g m) sz 0 [some (.ref (ad g 363))] []
  refine V.aload_n (pc := 0) hB dX10_begins_0 rfl ?_
  refine V.get (pc := 1) hB fk_Model 0 wf_X10_9 dX10_begins_1 (by decide) (hp_at (ca_Model _)) rfl ?_
  refine V.iconst (pc := 4) (v := 0) hB dX10_begins_4 rfl ?_
  refine V.aload_n (pc := 5) hB dX10_begins_5 rfl ?_
  refine V.get (pc := 6) hB fk_Model 1 wf_X10_13 dX10_begins_6 (by decide) (hp_at (ca_Model _)) rfl ?_
  refine V.iconst (pc := 9) (v := 0) hB dX10_begins_9 rfl ?_
  refine V.cs (pc := 10) hB cw_X10_copies wm_X10_51 wst_X10_copies dX10_begins_10 (c_X10_copies hG (k0 := 364) (k1 := 365) (a := 0) (b := 0) (by decide) (by decide) ca_Now ca_Before (by decide) (by decide) (by decide) (xa := 0) (xb := 0) rfl rfl) (by omega) (by decide) rfl (by exact Nat.le_of_ble_eq_true rfl) (by omega) (by omega) kN (kV (fun m_10 sz h_10 => ?_)) rfl
  refine V.retV (pc := 13) hB dX10_begins_13 rfl (by omega) (by omega) ?_
  exact h_10

set_option maxRecDepth 100000 in
set_option maxHeartbeats 1000000 in
theorem c_X10_isLake {g : xG} (hG : GK g) {m : Mem} (hM : MW (m.1 364)) {x : Int32} : CC g yX10_isLake (.code yX10_isLake cX10_isLake 2 (some .boolean)) 2 0 0 [.ref (ad g 363), .int x] m (rI (fun v m2 => v = (if islB (m.1 364) x = true then 1 else 0) ∧ m2 = m)) noX := by
  refine CC.mk hG RX10 rfl (by decide +kernel) rfl (Nat.le_of_ble_eq_true rfl) (fun sz B hB hX => ?_)
  show V g B 0 0 _ (hp g m) sz 0 [some (.ref (ad g 363)), some (.int x)] []
  refine V.iload_n (pc := 0) hB dX10_isLake_0 rfl ?_
  refine V.iconst (pc := 1) (v := 0) hB dX10_isLake_1 rfl ?_
  refine V.aload_n (pc := 2) hB dX10_isLake_2 rfl ?_
  refine V.get (pc := 3) hB fk_Model 0 wf_X10_9 dX10_isLake_3 (by decide) (hp_at (ca_Model _)) rfl ?_
  refine V.iconst (pc := 6) (v := 2) hB dX10_isLake_6 rfl ?_
  refine V.ialdM (pc := 7) hB (ca_Now) dX10_isLake_7 ((ix_nI (q := 2) (N := 218) (by decide) (by decide) : ix 2 2 218)) ?_
  rw [hM.1.1]
  refine V.iconst (pc := 8) (v := 1) hB dX10_isLake_8 rfl ?_
  refine V.isub (pc := 9) hB dX10_isLake_9 ?_
  refine V.cs (pc := 10) hB cw_X10_isIn wm_X10_69 wst_X10_isIn dX10_isLake_10 (c_X10_isIn hG) (by omega) (by decide) rfl (by exact Nat.le_of_ble_eq_true rfl) (by omega) (by omega) kN (kI (fun v_10 m_10 sz h_10 => ?_)) rfl
  obtain ⟨rfl, hm_10⟩ := h_10
  obtain rfl := hm_10.symm
  rw [show decide (x ≤ nI (mL (m.1 364)) - 1) = decide (x < nI (mL (m.1 364))) from decide_eq_decide.mpr (le_sub1 (by have := hM.1.2; omega))]
  refine V.retI (pc := 13) hB dX10_isLake_13 rfl (bnar _) (by omega) (by omega) ?_
  exact ⟨rfl, rfl⟩

set_option maxRecDepth 100000 in
set_option maxHeartbeats 1000000 in
theorem c_X10_of {g : xG} (hG : GK g) {m : Mem} (hM : MW (m.1 364)) {x : Int32} {k : Nat} (hk : k ≤ 2) {xk : Int32} (hxk : xk = nI k) : CC g yX10_of (.code yX10_of cX10_of 3 (some .int)) 3 0 0 [.ref (ad g 363), .int x, .int xk] m (rI (fun v m2 => v = ofV (m.1 364) x k ∧ m2 = m)) noX := by
  have h5 := hM.1.2
  refine CC.mk hG RX10 rfl (by decide +kernel) rfl (Nat.le_of_ble_eq_true rfl) (fun sz B hB hX => ?_)
  show V g B 0 0 _ (hp g m) sz 0 [some (.ref (ad g 363)), some (.int x), some (.int xk)] []
  subst hxk
  refine V.aload_n (pc := 0) hB dX10_of_0 rfl ?_
  refine V.get (pc := 1) hB fk_Model 0 wf_X10_9 dX10_of_1 (by decide) (hp_at (ca_Model _)) rfl ?_
  refine V.bipush (pc := 4) (v := 7) hB dX10_of_4 rfl ?_
  refine V.bipush (pc := 6) (v := 27) hB dX10_of_6 rfl ?_
  refine V.aload_n (pc := 8) hB dX10_of_8 rfl ?_
  refine V.iload_n (pc := 9) hB dX10_of_9 rfl ?_
  refine V.cv (pc := 10) hB cw_X10_isLake wm_X10_73 wi_X10_isLake ws_X10_isLake dX10_of_10 (c_X10_isLake hG hM) (hp_at (ca_Model _)) fk_Model rfl (by omega) (by decide) rfl (by exact Nat.le_of_ble_eq_true rfl) (by omega) (by omega) kN (kI (fun v_10 m_10 sz h_10 => ?_)) rfl
  obtain ⟨rfl, hm_10⟩ := h_10
  obtain rfl := hm_10.symm
  refine V.if_eq (pc := 13) (tgt := 20) hB dX10_of_13 (by decide) (fun c_13 => ?_) (fun c_13 => ?_)
  · have hb : ¬ islB (m.1 364) x = true := by rw [b00 c_13]; decide
    have hlk : lkI (m.1 364) x = 0 := if_neg hb
    refine V.iconst (pc := 20) (v := 0) hB dX10_of_20 rfl ?_
    
    refine V.imul (pc := 21) hB dX10_of_21 ?_
    refine V.iadd (pc := 22) hB dX10_of_22 ?_
    refine V.iload_n (pc := 23) hB dX10_of_23 rfl ?_
    refine V.iadd (pc := 24) hB dX10_of_24 ?_
    first
    | rw [ix7]
    | rw [show (0 : Int32) = nI 0 from rfl, ix7]
    refine V.ialdM (pc := 25) hB (ca_Now) dX10_of_25 (ix_nI (by omega) (by decide)) ?_
    refine V.retI (pc := 26) hB dX10_of_26 rfl (rfl) (by omega) (by omega) ?_
    unfold ofV
    rw [hlk]
    exact ⟨rfl, rfl⟩
  · have hb := b01 c_13
    obtain ⟨j, hxe, hj, hjc⟩ := idx_j (islB_in hb) (by have := hM.1.2; omega)
    subst hxe
    have hlk : lkI (m.1 364) (nI j) = j := (if_pos hb).trans hjc
    refine V.iload_n (pc := 16) hB dX10_of_16 rfl ?_
    refine V.goto (pc := 17) (tgt := 21) hB dX10_of_17 (by decide) ?_
    
    refine V.imul (pc := 21) hB dX10_of_21 ?_
    refine V.iadd (pc := 22) hB dX10_of_22 ?_
    refine V.iload_n (pc := 23) hB dX10_of_23 rfl ?_
    refine V.iadd (pc := 24) hB dX10_of_24 ?_
    first
    | rw [ix7]
    | rw [show (0 : Int32) = nI 0 from rfl, ix7]
    refine V.ialdM (pc := 25) hB (ca_Now) dX10_of_25 (ix_nI (by omega) (by decide)) ?_
    refine V.retI (pc := 26) hB dX10_of_26 rfl (rfl) (by omega) (by omega) ?_
    unfold ofV
    rw [hlk]
    exact ⟨rfl, rfl⟩
