def PR (m : Mem) (i w cn : Nat) : Prop := m.1 (LA i + 5) 5 = nI w ∧ w < 16 ∧ m.1 (LA i + 5) 4 = nI cn ∧ cn ≤ 16
def WR (m : Mem) (i n : Nat) : Prop := m.1 (LA i + 2) 2 = nI n ∧ n ≤ 6
theorem LA_lt {i : Nat} (hi : i < 11) : LA i + 30 ≤ 333 := by unfold LA; split <;> omega
theorem loop_dn {P : Nat → Prop} (h : ∀ p, (∀ p', p = p' + 1 → P p') → P p) : ∀ p, P p := by
  intro p
  induction p with
  | zero => exact h 0 (fun p' e => by omega)
  | succ p ih => exact h (p + 1) (fun p' e => by have : p' = p := by omega
                                                 subst this; exact ih)
def recM (i w cn : Nat) (kd lk pt hr : Int32) (m : Mem) : Mem := up (up (up (up (up (up m (LA i + 6) w kd) (LA i + 7) w lk) (LA i + 8) w pt) (LA i + 9) w hr) (LA i + 5) 5 (nI ((w + 1) % 16))) (LA i + 5) 4 (nI (min (cn + 1) 16))
def cpPeal (i i2 : Nat) (m0 : Mem) : Mem :=
  let m1 := setRow m0 (LA i + 6) (va_cpy (m0.1 (LA i2 + 6)) (m0.1 (LA i + 6)) 0 0 16)
  let m2 := setRow m1 (LA i + 7) (va_cpy (m1.1 (LA i2 + 7)) (m1.1 (LA i + 7)) 0 0 16)
  let m3 := setRow m2 (LA i + 8) (va_cpy (m2.1 (LA i2 + 8)) (m2.1 (LA i + 8)) 0 0 16)
  let m4 := setRow m3 (LA i + 9) (va_cpy (m3.1 (LA i2 + 9)) (m3.1 (LA i + 9)) 0 0 16)
  let m5 := up m4 (LA i + 5) 4 (m4.1 (LA i2 + 5) 4)
  up m5 (LA i + 5) 5 (m5.1 (LA i2 + 5) 5)
def cpWin (i i2 : Nat) (m0 : Mem) : Mem :=
  let m1 := setRow m0 (LA i + 3) (va_cpy (m0.1 (LA i2 + 3)) (m0.1 (LA i + 3)) 0 0 6)
  let m2 := setRow m1 (LA i + 4) (va_cpy (m1.1 (LA i2 + 4)) (m1.1 (LA i + 4)) 0 0 6)
  up m2 (LA i + 2) 2 (m2.1 (LA i2 + 2) 2)
def fmI (x y : Int32) : Int32 := if 0 ≤ x ^^^ y then x - x / y * y else if x - x / y * y = 0 then x - x / y * y else x - x / y * y + y
theorem xfm16 : ∀ w, w < 16 → ∀ r, r < 16 → fmI (nI w - 1 - nI r) 16 = nI ((w + 15 - r) % 16) := by decide +kernel
theorem xfm8 : ∀ w, w < 8 → fmI (nI w - 1) 8 = nI ((w + 7) % 8) := by decide +kernel
theorem minI {c M : Nat} (hc : c < 2 ^ 31) (hM : M < 2 ^ 31) : (if nI M < nI c then nI M else nI c) = nI (min c M) := by
  by_cases h : M < c
  · rw [if_pos ((nI_ltI hM hc).mpr h), Nat.min_eq_right (by omega)]
  · rw [if_neg (fun z => h ((nI_ltI hM hc).mp z)), Nat.min_eq_left (by omega)]
/-- how many of the first n are x -/
def cntEq (f : Nat → Int32) (x : Int32) : Nat → Nat | 0 => 0 | n + 1 => cntEq f x n + if x = f n then 1 else 0
theorem cntEq_le (f : Nat → Int32) (x : Int32) : ∀ n, cntEq f x n ≤ n
  | 0 => Nat.le_refl 0
  | n + 1 => by have := cntEq_le f x n; show cntEq f x n + _ ≤ n + 1; split <;> omega
theorem cntEq_mono (f : Nat → Int32) (x : Int32) {a : Nat} : ∀ {n}, a ≤ n → cntEq f x a ≤ cntEq f x n := by
  intro n
  induction n with
  | zero => intro h; have : a = 0 := by omega
            subst this; exact Nat.le_refl _
  | succ n ih => intro h; by_cases e : a = n + 1
                 · subst e; exact Nat.le_refl _
                 · exact Nat.le_trans (ih (by omega)) (Nat.le_add_right _ _)
/-- pairs (a, b), a < i, a < b < cn, of the same value -/
def pairsN (f : Nat → Int32) (cn : Nat) : Nat → Nat | 0 => 0 | i + 1 => pairsN f cn i + (cntEq f (f i) cn - cntEq f (f i) (i + 1))
theorem pairsN_le (f : Nat → Int32) (cn : Nat) : ∀ i, pairsN f cn i ≤ i * cn
  | 0 => by simp [pairsN]
  | i + 1 => by have := pairsN_le f cn i; have := cntEq_le f (f i) cn; show pairsN f cn i + _ ≤ _; rw [Nat.succ_mul]; omega
def tallyRow (f old : Nat → Int32) (q : Nat) : Nat → Int32 := upto 141 (fun p => nI (cntEq f (nI p) q)) old
/-- how many of the first n are above 0 -/
def cntPos (f : Nat → Int32) : Nat → Nat | 0 => 0 | n + 1 => cntPos f n + if 0 < f n then 1 else 0
theorem cntPos_le (f : Nat → Int32) : ∀ n, cntPos f n ≤ n
  | 0 => Nat.le_refl 0
  | n + 1 => by have := cntPos_le f n; show cntPos f n + _ ≤ n + 1; split <;> omega
def meetB (F L : Nat → Int32) (a b : Int32) : Nat → Bool | 0 => false | n + 1 => meetB F L a b n || (decide (a ≤ L n) && decide (F n ≤ b))
theorem meetB_stay {F L : Nat → Int32} {a b : Int32} {q : Nat} (h1 : a ≤ L q) (h2 : F q ≤ b) : ∀ n, q < n → meetB F L a b n = true := by
  intro n
  induction n with
  | zero => intro h; omega
  | succ n ih =>
    intro h
    by_cases e : n = q
    · subst e; simp [meetB, h1, h2]
    · simp [meetB, ih (by omega)]
def insPos (F : Nat → Int32) (x : Int32) : Nat → Nat | 0 => 0 | p + 1 => if x < F p then insPos F x p else p + 1
theorem insPos_le (F : Nat → Int32) (x : Int32) : ∀ n, insPos F x n ≤ n
  | 0 => Nat.le_refl 0
  | n + 1 => by have := insPos_le F x n; show (if x < F n then insPos F x n else n + 1) ≤ n + 1; split <;> omega
def shR (f : Nat → Int32) (n p : Nat) : Nat → Int32 := fun y => if p < y ∧ y ≤ n then f (y - 1) else f y
def insRow (f : Nat → Int32) (n p : Nat) (v : Int32) : Nat → Int32 := fun y => if y = p then v else shR f n p y
def rmRow (f : Nat → Int32) (a q : Nat) : Nat → Int32 := fun y => if a ≤ y ∧ y < q then f (y + 1) else f y
def insM (i n : Nat) (x z : Int32) (m : Mem) : Mem := up (setRow (setRow m (LA i + 3) (insRow (m.1 (LA i + 3)) n (insPos (m.1 (LA i + 3)) x n) x)) (LA i + 4) (insRow (m.1 (LA i + 4)) n (insPos (m.1 (LA i + 3)) x n) z)) (LA i + 2) 2 (nI (n + 1))
def rmM (i n a : Nat) (m : Mem) : Mem := setRow (setRow (up m (LA i + 2) 2 (nI (n - 1))) (LA i + 3) (rmRow (m.1 (LA i + 3)) a (n - 1))) (LA i + 4) (rmRow (m.1 (LA i + 4)) a (n - 1))
/-- two rows set, neighbours -/
def set2 (m : Mem) (a : Nat) (f1 f2 : Nat → Int32) : Mem := setRow (setRow m a f1) (a + 1) f2
theorem set2_1 (m : Mem) (a : Nat) (f1 f2 : Nat → Int32) : (set2 m a f1 f2).1 a = f1 := by unfold set2; rw [setRow_cell _ _ (by omega), setRow_same]
theorem set2_2 (m : Mem) (a : Nat) (f1 f2 : Nat → Int32) : (set2 m a f1 f2).1 (a + 1) = f2 := setRow_same _ _ _
theorem set2_o (m : Mem) (a : Nat) (f1 f2 : Nat → Int32) {k : Nat} (h : k < a ∨ a + 1 < k) : (set2 m a f1 f2).1 k = m.1 k := by unfold set2; rw [setRow_cell _ _ (by omega), setRow_cell _ _ (by omega)]
theorem set2_ext {m m' : Mem} {a : Nat} {f1 f2 : Nat → Int32} (h1 : m'.1 a = f1) (h2 : m'.1 (a + 1) = f2) (ho : ∀ k, (k < a ∨ a + 1 < k) → m'.1 k = m.1 k) (hs : m'.2 = m.2) : m' = set2 m a f1 f2 := by
  refine Prod.ext ?_ hs
  funext k
  by_cases h : k < a ∨ a + 1 < k
  · rw [ho k h, set2_o _ _ _ _ h]
  · have : k = a ∨ k = a + 1 := by omega
    rcases this with rfl | rfl
    · rw [h1, set2_1]
    · rw [h2, set2_2]
theorem set2_up1 (m : Mem) (a : Nat) (f1 f2 f' : Nat → Int32) (j : Nat) (v : Int32) (h : ∀ y, f' y = if y = j then v else f1 y) : up (set2 m a f1 f2) a j v = set2 m a f' f2 := by
  refine set2_ext ?_ ?_ (fun k hk => ?_) rfl
  · rw [up_row, set2_1]; funext y; rw [h y]; rfl
  · rw [up_cell _ _ _ (by omega), set2_2]
  · rw [up_cell _ _ _ (by omega), set2_o _ _ _ _ hk]
theorem set2_up2 (m : Mem) (a : Nat) (f1 f2 f' : Nat → Int32) (j : Nat) (v : Int32) (h : ∀ y, f' y = if y = j then v else f2 y) : up (set2 m a f1 f2) (a + 1) j v = set2 m a f1 f' := by
  refine set2_ext ?_ ?_ (fun k hk => ?_) rfl
  · rw [up_cell _ _ _ (by omega), set2_1]
  · rw [up_row, set2_2]; funext y; rw [h y]; rfl
  · rw [up_cell _ _ _ (by omega), set2_o _ _ _ _ hk]
theorem set2_id (m : Mem) (a : Nat) : set2 m a (m.1 a) (m.1 (a + 1)) = m := (set2_ext rfl rfl (fun _ _ => rfl) rfl).symm

set_option maxRecDepth 100000 in
set_option maxHeartbeats 4000000 in
theorem c_X7_record {g : xG} (hG : GK g) {i : Nat} (hi : i < 11) {m : Mem} {w cn : Nat} (hP : PR m i w cn) {kd lk pt hr : Int32} (hk : vp_nar .char kd = kd) : CC g yX7_record (.code yX7_record cX7_record 5 none) 2 0 0 [.ref (ad g (LA i + 5)), .int kd, .int lk, .int pt, .int hr] m (rV (fun m2 => m2 = recM i w cn kd lk pt hr m)) noX := by
  obtain ⟨h1, hw, h3, hc⟩ := id hP
  refine CC.mk hG RX7 rfl (by decide +kernel) rfl (Nat.le_of_ble_eq_true rfl) (fun sz B hB hX => ?_)
  show V g B 0 0 _ (hp g m) sz 0 [some (.ref (ad g (LA i + 5))), some (.int kd), some (.int lk), some (.int pt), some (.int hr)] []
  refine V.aload_n (pc := 0) hB dX7_record_0 rfl ?_
  refine V.get (pc := 1) hB fk_Peal 0 wf_X7_9 dX7_record_1 (by decide) (hp_at (ca_Peal (by omega) _)) rfl ?_
  refine V.aload_n (pc := 4) hB dX7_record_4 rfl ?_
  refine V.get (pc := 5) hB fk_Peal 5 wf_X7_29 dX7_record_5 (by decide) (hp_at (ca_Peal (by omega) _)) rfl ?_
  refine V.iload_n (pc := 8) hB dX7_record_8 rfl ?_
  refine V.castM (pc := 9) hB (ca_PKind (by omega)) dX7_record_9 (by rw [hP.1]; exact ix_nI hP.2.1 (by decide)) (ne_LA (by omega) (by omega)) (hk) ?_
  refine V.aload_n (pc := 10) hB dX7_record_10 rfl ?_
  refine V.get (pc := 11) hB fk_Peal 1 wf_X7_15 dX7_record_11 (by decide) (hp_at (ca_Peal (by omega) _)) rfl ?_
  refine V.aload_n (pc := 14) hB dX7_record_14 rfl ?_
  refine V.get (pc := 15) hB fk_Peal 5 wf_X7_29 dX7_record_15 (by decide) (hp_at (ca_Peal (by omega) _)) rfl ?_
  refine V.iload_n (pc := 18) hB dX7_record_18 rfl ?_
  refine V.iastM (pc := 19) hB (ca_PLake (by omega)) dX7_record_19 (by simp only [up_cell _ _ _ (show LA i + 5 ≠ LA i + 6 by omega), up_cell _ _ _ (show LA i + 5 ≠ LA i + 7 by omega), up_cell _ _ _ (show LA i + 5 ≠ LA i + 8 by omega), up_cell _ _ _ (show LA i + 5 ≠ LA i + 9 by omega), up_slot _ _ _ (show 4 ≠ 5 by decide), hP.1, hP.2.2.1]; exact ix_nI hP.2.1 (by decide)) (ne_LA (by omega) (by omega)) ?_
  refine V.aload_n (pc := 20) hB dX7_record_20 rfl ?_
  refine V.get (pc := 21) hB fk_Peal 2 wf_X7_19 dX7_record_21 (by decide) (hp_at (ca_Peal (by omega) _)) rfl ?_
  refine V.aload_n (pc := 24) hB dX7_record_24 rfl ?_
  refine V.get (pc := 25) hB fk_Peal 5 wf_X7_29 dX7_record_25 (by decide) (hp_at (ca_Peal (by omega) _)) rfl ?_
  refine V.iload_n (pc := 28) hB dX7_record_28 rfl ?_
  refine V.iastM (pc := 29) hB (ca_PPitch (by omega)) dX7_record_29 (by simp only [up_cell _ _ _ (show LA i + 5 ≠ LA i + 6 by omega), up_cell _ _ _ (show LA i + 5 ≠ LA i + 7 by omega), up_cell _ _ _ (show LA i + 5 ≠ LA i + 8 by omega), up_cell _ _ _ (show LA i + 5 ≠ LA i + 9 by omega), up_slot _ _ _ (show 4 ≠ 5 by decide), hP.1, hP.2.2.1]; exact ix_nI hP.2.1 (by decide)) (ne_LA (by omega) (by omega)) ?_
  refine V.aload_n (pc := 30) hB dX7_record_30 rfl ?_
  refine V.get (pc := 31) hB fk_Peal 3 wf_X7_22 dX7_record_31 (by decide) (hp_at (ca_Peal (by omega) _)) rfl ?_
  refine V.aload_n (pc := 34) hB dX7_record_34 rfl ?_
  refine V.get (pc := 35) hB fk_Peal 5 wf_X7_29 dX7_record_35 (by decide) (hp_at (ca_Peal (by omega) _)) rfl ?_
  refine V.iload (pc := 38) hB dX7_record_38 rfl ?_
  refine V.iastM (pc := 40) hB (ca_PHour (by omega)) dX7_record_40 (by simp only [up_cell _ _ _ (show LA i + 5 ≠ LA i + 6 by omega), up_cell _ _ _ (show LA i + 5 ≠ LA i + 7 by omega), up_cell _ _ _ (show LA i + 5 ≠ LA i + 8 by omega), up_cell _ _ _ (show LA i + 5 ≠ LA i + 9 by omega), up_slot _ _ _ (show 4 ≠ 5 by decide), hP.1, hP.2.2.1]; exact ix_nI hP.2.1 (by decide)) (ne_LA (by omega) (by omega)) ?_
  refine V.aload_n (pc := 41) hB dX7_record_41 rfl ?_
  refine V.aload_n (pc := 42) hB dX7_record_42 rfl ?_
  refine V.get (pc := 43) hB fk_Peal 5 wf_X7_29 dX7_record_43 (by decide) (hp_at (ca_Peal (by omega) _)) rfl ?_
  simp only [up_cell _ _ _ (show LA i + 5 ≠ LA i + 6 by omega), up_cell _ _ _ (show LA i + 5 ≠ LA i + 7 by omega), up_cell _ _ _ (show LA i + 5 ≠ LA i + 8 by omega), up_cell _ _ _ (show LA i + 5 ≠ LA i + 9 by omega), up_slot _ _ _ (show 4 ≠ 5 by decide), hP.1, hP.2.2.1]
  refine V.iconst (pc := 46) (v := 1) hB dX7_record_46 rfl ?_
  refine V.iadd (pc := 47) hB dX7_record_47 ?_
  rw [nI1]
  refine V.bipush (pc := 48) (v := 16) hB dX7_record_48 rfl ?_
  refine V.irem (pc := 50) hB dX7_record_50 (by decide) ?_
  rw [show nI (w + 1) - nI (w + 1) / 16 * 16 = nI ((w + 1) % 16) from pk_rem (d := 16) (by omega) (by decide) (by decide)]
  refine V.p_Peal_next (pc := 51) hB wf_X7_29 dX7_record_51 (by omega) ?_
  refine V.aload_n (pc := 54) hB dX7_record_54 rfl ?_
  refine V.aload_n (pc := 55) hB dX7_record_55 rfl ?_
  refine V.get (pc := 56) hB fk_Peal 4 wf_X7_25 dX7_record_56 (by decide) (hp_at (ca_Peal (by omega) _)) rfl ?_
  simp only [up_cell _ _ _ (show LA i + 5 ≠ LA i + 6 by omega), up_cell _ _ _ (show LA i + 5 ≠ LA i + 7 by omega), up_cell _ _ _ (show LA i + 5 ≠ LA i + 8 by omega), up_cell _ _ _ (show LA i + 5 ≠ LA i + 9 by omega), up_slot _ _ _ (show 4 ≠ 5 by decide), hP.1, hP.2.2.1]
  refine V.iconst (pc := 59) (v := 1) hB dX7_record_59 rfl ?_
  refine V.iadd (pc := 60) hB dX7_record_60 ?_
  rw [nI1]
  refine V.bipush (pc := 61) (v := 16) hB dX7_record_61 rfl ?_
  refine V.cs (pc := 63) hB cw_J9_min_7cf53 wm_X7_38 wst_J9_min_7cf53 dX7_record_63 (c_J9_min_7cf53 hG) (by omega) (by decide) rfl (by exact Nat.le_of_ble_eq_true rfl) (by omega) (by omega) kN (kI (fun v_63 m_63 sz h_63 => ?_)) rfl
  obtain ⟨rfl, rfl⟩ := h_63
  rw [show (if (16 : Int32) < nI (cn + 1) then 16 else nI (cn + 1)) = nI (min (cn + 1) 16) from minI (M := 16) (by omega) (by decide)]
  refine V.p_Peal_count (pc := 66) hB wf_X7_25 dX7_record_66 (by omega) ?_
  refine V.retV (pc := 69) hB dX7_record_69 rfl (by omega) (by omega) ?_
  exact rfl

set_option maxRecDepth 100000 in
set_option maxHeartbeats 4000000 in
theorem c_X7_copyFrom {g : xG} (hG : GK g) {i i2 : Nat} (hi : i < 11) (hi2 : i2 < 11) {m : Mem} (hfit : ∀ y, y < 16 → fits .char (.int (m.1 (LA i2 + 6) y)) = true) : CC g yX7_copyFrom (.code yX7_copyFrom cX7_copyFrom 2 none) 1 0 0 [.ref (ad g (LA i + 5)), .ref (ad g (LA i2 + 5))] m (rV (fun m2 => m2 = cpPeal i i2 m)) noX := by
  refine CC.mk hG RX7 rfl (by decide +kernel) rfl (Nat.le_of_ble_eq_true rfl) (fun sz B hB hX => ?_)
  show V g B 0 0 _ (hp g m) sz 0 [some (.ref (ad g (LA i + 5))), some (.ref (ad g (LA i2 + 5)))] []
  refine V.aload_n (pc := 0) hB dX7_copyFrom_0 rfl ?_
  refine V.get (pc := 1) hB fk_Peal 0 wf_X7_9 dX7_copyFrom_1 (by decide) (hp_at (ca_Peal (by omega) _)) rfl ?_
  refine V.iconst (pc := 4) (v := 0) hB dX7_copyFrom_4 rfl ?_
  refine V.aload_n (pc := 5) hB dX7_copyFrom_5 rfl ?_
  refine V.get (pc := 6) hB fk_Peal 0 wf_X7_9 dX7_copyFrom_6 (by decide) (hp_at (ca_Peal (by omega) _)) rfl ?_
  refine V.iconst (pc := 9) (v := 0) hB dX7_copyFrom_9 rfl ?_
  refine V.bipush (pc := 10) (v := 16) hB dX7_copyFrom_10 rfl ?_
  refine V.acopyM (pc := 12) hB 1 16 wm_X7_32 dX7_copyFrom_12 (ca_PKind (by omega)) (ca_PKind (by omega)) rfl rfl (by decide) rfl (by decide) (by decide) (hfit) (ne_LA (by omega) (by omega)) (by decide) (by exact Nat.le_of_ble_eq_true rfl) ?_
  refine V.aload_n (pc := 15) hB dX7_copyFrom_15 rfl ?_
  refine V.get (pc := 16) hB fk_Peal 1 wf_X7_15 dX7_copyFrom_16 (by decide) (hp_at (ca_Peal (by omega) _)) rfl ?_
  refine V.iconst (pc := 19) (v := 0) hB dX7_copyFrom_19 rfl ?_
  refine V.aload_n (pc := 20) hB dX7_copyFrom_20 rfl ?_
  refine V.get (pc := 21) hB fk_Peal 1 wf_X7_15 dX7_copyFrom_21 (by decide) (hp_at (ca_Peal (by omega) _)) rfl ?_
  refine V.iconst (pc := 24) (v := 0) hB dX7_copyFrom_24 rfl ?_
  refine V.bipush (pc := 25) (v := 16) hB dX7_copyFrom_25 rfl ?_
  refine V.acopyM (pc := 27) hB 0 16 wm_X7_32 dX7_copyFrom_27 (ca_PLake (by omega)) (ca_PLake (by omega)) rfl rfl (by decide) rfl (by decide) (by decide) (fun _ _ => rfl) (ne_LA (by omega) (by omega)) (by decide) (by exact Nat.le_of_ble_eq_true rfl) ?_
  refine V.aload_n (pc := 30) hB dX7_copyFrom_30 rfl ?_
  refine V.get (pc := 31) hB fk_Peal 2 wf_X7_19 dX7_copyFrom_31 (by decide) (hp_at (ca_Peal (by omega) _)) rfl ?_
  refine V.iconst (pc := 34) (v := 0) hB dX7_copyFrom_34 rfl ?_
  refine V.aload_n (pc := 35) hB dX7_copyFrom_35 rfl ?_
  refine V.get (pc := 36) hB fk_Peal 2 wf_X7_19 dX7_copyFrom_36 (by decide) (hp_at (ca_Peal (by omega) _)) rfl ?_
  refine V.iconst (pc := 39) (v := 0) hB dX7_copyFrom_39 rfl ?_
  refine V.bipush (pc := 40) (v := 16) hB dX7_copyFrom_40 rfl ?_
  refine V.acopyM (pc := 42) hB 0 16 wm_X7_32 dX7_copyFrom_42 (ca_PPitch (by omega)) (ca_PPitch (by omega)) rfl rfl (by decide) rfl (by decide) (by decide) (fun _ _ => rfl) (ne_LA (by omega) (by omega)) (by decide) (by exact Nat.le_of_ble_eq_true rfl) ?_
  refine V.aload_n (pc := 45) hB dX7_copyFrom_45 rfl ?_
  refine V.get (pc := 46) hB fk_Peal 3 wf_X7_22 dX7_copyFrom_46 (by decide) (hp_at (ca_Peal (by omega) _)) rfl ?_
  refine V.iconst (pc := 49) (v := 0) hB dX7_copyFrom_49 rfl ?_
  refine V.aload_n (pc := 50) hB dX7_copyFrom_50 rfl ?_
  refine V.get (pc := 51) hB fk_Peal 3 wf_X7_22 dX7_copyFrom_51 (by decide) (hp_at (ca_Peal (by omega) _)) rfl ?_
  refine V.iconst (pc := 54) (v := 0) hB dX7_copyFrom_54 rfl ?_
  refine V.bipush (pc := 55) (v := 16) hB dX7_copyFrom_55 rfl ?_
  refine V.acopyM (pc := 57) hB 0 16 wm_X7_32 dX7_copyFrom_57 (ca_PHour (by omega)) (ca_PHour (by omega)) rfl rfl (by decide) rfl (by decide) (by decide) (fun _ _ => rfl) (ne_LA (by omega) (by omega)) (by decide) (by exact Nat.le_of_ble_eq_true rfl) ?_
  refine V.aload_n (pc := 60) hB dX7_copyFrom_60 rfl ?_
  refine V.aload_n (pc := 61) hB dX7_copyFrom_61 rfl ?_
  refine V.get (pc := 62) hB fk_Peal 4 wf_X7_25 dX7_copyFrom_62 (by decide) (hp_at (ca_Peal (by omega) _)) rfl ?_
  refine V.p_Peal_count (pc := 65) hB wf_X7_25 dX7_copyFrom_65 (by omega) ?_
  refine V.aload_n (pc := 68) hB dX7_copyFrom_68 rfl ?_
  refine V.aload_n (pc := 69) hB dX7_copyFrom_69 rfl ?_
  refine V.get (pc := 70) hB fk_Peal 5 wf_X7_29 dX7_copyFrom_70 (by decide) (hp_at (ca_Peal (by omega) _)) rfl ?_
  refine V.p_Peal_next (pc := 73) hB wf_X7_29 dX7_copyFrom_73 (by omega) ?_
  refine V.retV (pc := 76) hB dX7_copyFrom_76 rfl (by omega) (by omega) ?_
  exact rfl

set_option maxRecDepth 100000 in
set_option maxHeartbeats 4000000 in
theorem c_X7_slotOf {g : xG} (hG : GK g) {i : Nat} (hi : i < 11) {m : Mem} {w cn : Nat} (hP : PR m i w cn) {r : Nat} (hr : r < 16) : CC g yX7_slotOf (.code yX7_slotOf cX7_slotOf 2 (some .int)) 2 0 0 [.ref (ad g (LA i + 5)), .int (nI r)] m (rI (fun v m2 => v = nI ((w + 15 - r) % 16) ∧ m2 = m)) noX := by
  refine CC.mk hG RX7 rfl (by decide +kernel) rfl (Nat.le_of_ble_eq_true rfl) (fun sz B hB hX => ?_)
  show V g B 0 0 _ (hp g m) sz 0 [some (.ref (ad g (LA i + 5))), some (.int (nI r))] []
  refine V.aload_n (pc := 0) hB dX7_slotOf_0 rfl ?_
  refine V.get (pc := 1) hB fk_Peal 5 wf_X7_29 dX7_slotOf_1 (by decide) (hp_at (ca_Peal (by omega) _)) rfl ?_
  rw [hP.1]
  refine V.iconst (pc := 4) (v := 1) hB dX7_slotOf_4 rfl ?_
  refine V.isub (pc := 5) hB dX7_slotOf_5 ?_
  refine V.iload_n (pc := 6) hB dX7_slotOf_6 rfl ?_
  refine V.isub (pc := 7) hB dX7_slotOf_7 ?_
  refine V.bipush (pc := 8) (v := 16) hB dX7_slotOf_8 rfl ?_
  refine V.cs (pc := 10) hB cw_J9_floorMod_7cf53 wm_X7_44 wst_J9_floorMod_7cf53 dX7_slotOf_10 (c_J9_floorMod_7cf53 hG (by decide)) (by omega) (by decide) rfl (by exact Nat.le_of_ble_eq_true rfl) (by omega) (by omega) kN (kI (fun v_10 m_10 sz h_10 => ?_)) rfl
  obtain ⟨rfl, rfl⟩ := h_10
  refine V.retI (pc := 13) hB dX7_slotOf_13 rfl (rfl) (by omega) (by omega) ?_
  exact ⟨xfm16 w hP.2.1 r hr, rfl⟩

set_option maxRecDepth 100000 in
set_option maxHeartbeats 4000000 in
theorem c_X7_pairsByComparing {g : xG} (hG : GK g) {i : Nat} (hi : i < 11) {m : Mem} {w cn : Nat} (hP : PR m i w cn) : CC g yX7_pairsByComparing (.code yX7_pairsByComparing cX7_pairsByComparing 4 (some .int)) 1 0 0 [.ref (ad g (LA i + 5))] m (rI (fun v m2 => v = nI (pairsN (m.1 (LA i + 8)) cn cn) ∧ m2 = m)) noX := by
  obtain ⟨h1, hw, h3, hc⟩ := hP
  refine CC.mk hG RX7 rfl (by decide +kernel) rfl (Nat.le_of_ble_eq_true rfl) (fun sz B hB hX => ?_)
  show V g B 0 0 _ (hp g m) sz 0 [some (.ref (ad g (LA i + 5))), none, none, none] []
  have outer : ∀ a : Nat, a ≤ cn → ∀ (x3 : Option Value), V g B 0 0 (QM g B 0 0 (rI (fun v m2 => v = nI (pairsN (m.1 (LA i + 8)) cn cn) ∧ m2 = m)) noX) (hp g (m)) sz 4 [some (.ref (ad g (LA i + 5))), some (.int (nI (pairsN (m.1 (LA i + 8)) cn a))), some (.int (nI a)), x3] [] := by
    refine loop_up (fun a ha ihA => ?_)
    intro x3
    have inner : a < cn → ∀ b : Nat, b ≤ cn → a + 1 ≤ b → V g B 0 0 (QM g B 0 0 (rI (fun v m2 => v = nI (pairsN (m.1 (LA i + 8)) cn cn) ∧ m2 = m)) noX) (hp g (m)) sz 16 [some (.ref (ad g (LA i + 5))), some (.int (nI (pairsN (m.1 (LA i + 8)) cn a + (cntEq (m.1 (LA i + 8)) ((m.1 (LA i + 8)) a) b - cntEq (m.1 (LA i + 8)) ((m.1 (LA i + 8)) a) (a + 1))))), some (.int (nI a)), some (.int (nI b))] [] := by
      intro hlt
      refine loop_up (fun b hb ihB => ?_)
      intro hab
      refine V.iload_n (pc := 16) hB dX7_pairsByComparing_16 rfl ?_
      refine V.aload_n (pc := 17) hB dX7_pairsByComparing_17 rfl ?_
      refine V.get (pc := 18) hB fk_Peal 4 wf_X7_25 dX7_pairsByComparing_18 (by decide) (hp_at (ca_Peal (by omega) _)) rfl ?_
      refine V.icmp_ge (pc := 21) (tgt := 48) hB dX7_pairsByComparing_21 (by decide) (fun c_21 => ?_) (fun c_21 => ?_)
      · have hbc : b = cn := nge h3 (by omega) hb c_21
        have hs : pairsN (m.1 (LA i + 8)) cn (a + 1) = pairsN (m.1 (LA i + 8)) cn a + (cntEq (m.1 (LA i + 8)) ((m.1 (LA i + 8)) a) b - cntEq (m.1 (LA i + 8)) ((m.1 (LA i + 8)) a) (a + 1)) := by rw [hbc]; rfl
        refine V.iinc (pc := 48) (v := nI (a + 1)) hB dX7_pairsByComparing_48 rfl (nI_1 _) (by decide) rfl ?_
        refine V.goto (pc := 51) (tgt := 4) hB dX7_pairsByComparing_51 (by decide) ?_
        have h0 := ihA hlt (some (.int (nI b)))
        rw [hs] at h0
        exact h0
      · have hltb : b < cn := nlt h3 (by omega) hb c_21
        refine V.aload_n (pc := 24) hB dX7_pairsByComparing_24 rfl ?_
        refine V.get (pc := 25) hB fk_Peal 2 wf_X7_19 dX7_pairsByComparing_25 (by decide) (hp_at (ca_Peal (by omega) _)) rfl ?_
        refine V.iload_n (pc := 28) hB dX7_pairsByComparing_28 rfl ?_
        refine V.ialdM (pc := 29) hB (ca_PPitch (by omega)) dX7_pairsByComparing_29 (ix_nI (by omega) (by decide)) ?_
        refine V.aload_n (pc := 30) hB dX7_pairsByComparing_30 rfl ?_
        refine V.get (pc := 31) hB fk_Peal 2 wf_X7_19 dX7_pairsByComparing_31 (by decide) (hp_at (ca_Peal (by omega) _)) rfl ?_
        refine V.iload_n (pc := 34) hB dX7_pairsByComparing_34 rfl ?_
        refine V.ialdM (pc := 35) hB (ca_PPitch (by omega)) dX7_pairsByComparing_35 (ix_nI (by omega) (by decide)) ?_
        refine V.icmp_ne (pc := 36) (tgt := 42) hB dX7_pairsByComparing_36 (by decide) (fun c_36 => ?_) (fun c_36 => ?_)
        · refine V.iinc (pc := 42) (v := nI (b + 1)) hB dX7_pairsByComparing_42 rfl (nI_1 _) (by decide) rfl ?_
          refine V.goto (pc := 45) (tgt := 16) hB dX7_pairsByComparing_45 (by decide) ?_
          first
          | exact ihB hltb (by omega)
          | (have h0 := ihB hltb (by omega)
             rw [show cntEq (m.1 (LA i + 8)) ((m.1 (LA i + 8)) a) (b + 1) = cntEq (m.1 (LA i + 8)) ((m.1 (LA i + 8)) a) b from (congrArg (fun z => cntEq (m.1 (LA i + 8)) ((m.1 (LA i + 8)) a) b + z) (if_neg c_36)).trans (Nat.add_zero _)] at h0
             exact h0)
        · refine V.iinc (pc := 39) (v := nI (pairsN (m.1 (LA i + 8)) cn a + (cntEq (m.1 (LA i + 8)) ((m.1 (LA i + 8)) a) (b + 1) - cntEq (m.1 (LA i + 8)) ((m.1 (LA i + 8)) a) (a + 1)))) hB dX7_pairsByComparing_39 rfl (by refine (nI_1 _).trans ?_; congr 1; have hm := cntEq_mono (m.1 (LA i + 8)) ((m.1 (LA i + 8)) a) hab; show _ = pairsN _ cn a + (cntEq (m.1 (LA i + 8)) ((m.1 (LA i + 8)) a) b + (if (m.1 (LA i + 8)) a = (m.1 (LA i + 8)) b then 1 else 0) - _); rw [if_pos c_36]; omega) (by decide) rfl ?_
          refine V.iinc (pc := 42) (v := nI (b + 1)) hB dX7_pairsByComparing_42 rfl (nI_1 _) (by decide) rfl ?_
          refine V.goto (pc := 45) (tgt := 16) hB dX7_pairsByComparing_45 (by decide) ?_
          first
          | exact ihB hltb (by omega)
          | (have h0 := ihB hltb (by omega)
             rw [show cntEq (m.1 (LA i + 8)) ((m.1 (LA i + 8)) a) (b + 1) = cntEq (m.1 (LA i + 8)) ((m.1 (LA i + 8)) a) b from (congrArg (fun z => cntEq (m.1 (LA i + 8)) ((m.1 (LA i + 8)) a) b + z) (if_neg c_36)).trans (Nat.add_zero _)] at h0
             exact h0)
    refine V.iload_n (pc := 4) hB dX7_pairsByComparing_4 rfl ?_
    refine V.aload_n (pc := 5) hB dX7_pairsByComparing_5 rfl ?_
    refine V.get (pc := 6) hB fk_Peal 4 wf_X7_25 dX7_pairsByComparing_6 (by decide) (hp_at (ca_Peal (by omega) _)) rfl ?_
    refine V.icmp_ge (pc := 9) (tgt := 54) hB dX7_pairsByComparing_9 (by decide) (fun c_9 => ?_) (fun c_9 => ?_)
    · have hac : a = cn := nge h3 (by omega) ha c_9
      refine V.iload_n (pc := 54) hB dX7_pairsByComparing_54 rfl ?_
      refine V.retI (pc := 55) hB dX7_pairsByComparing_55 rfl (rfl) (by omega) (by omega) ?_
      rw [hac]
      exact ⟨rfl, rfl⟩
    · have hlt : a < cn := nlt h3 (by omega) ha c_9
      refine V.iload_n (pc := 12) hB dX7_pairsByComparing_12 rfl ?_
      refine V.iconst (pc := 13) (v := 1) hB dX7_pairsByComparing_13 rfl ?_
      refine V.iadd (pc := 14) hB dX7_pairsByComparing_14 ?_
      rw [nI1]
      refine V.istore_n (pc := 15) hB dX7_pairsByComparing_15 (by decide) rfl ?_
      have h0 := inner hlt (a + 1) (by omega) (Nat.le_refl _)
      rw [Nat.sub_self, Nat.add_zero] at h0
      exact h0
  refine V.iconst (pc := 0) (v := 0) hB dX7_pairsByComparing_0 rfl ?_
  refine V.istore_n (pc := 1) hB dX7_pairsByComparing_1 (by decide) rfl ?_
  refine V.iconst (pc := 2) (v := 0) hB dX7_pairsByComparing_2 rfl ?_
  refine V.istore_n (pc := 3) hB dX7_pairsByComparing_3 (by decide) rfl ?_
  exact outer 0 (by omega) none

theorem tally_inc {f old : Nat → Int32} {q p : Nat} (hp : p < 141) (hf : f q = nI p) : ∀ y, tallyRow f old (q + 1) y = if y = p then tallyRow f old q p + 1 else tallyRow f old q y := by
  intro y
  unfold tallyRow upto
  by_cases h : y = p
  · subst h
    rw [if_pos hp, if_pos rfl, if_pos hp, nI_1]
    show nI (cntEq f (nI y) q + (if nI y = f q then 1 else 0)) = _
    rw [if_pos hf.symm]
  · rw [if_neg h]
    by_cases h2 : y < 141
    · rw [if_pos h2, if_pos h2]
      show nI (cntEq f (nI y) q + (if nI y = f q then 1 else 0)) = _
      rw [if_neg (fun z => h ((nI_eq (by omega) (by omega)).mp (z.trans hf))), Nat.add_zero]
    · rw [if_neg h2, if_neg h2]
theorem tally_skip {f old : Nat → Int32} {q : Nat} (hf : ∀ p, p < 141 → f q ≠ nI p) : tallyRow f old (q + 1) = tallyRow f old q := by
  funext y
  unfold tallyRow upto
  by_cases h2 : y < 141
  · rw [if_pos h2, if_pos h2]
    show nI (cntEq f (nI y) q + (if nI y = f q then 1 else 0)) = _
    rw [if_neg (fun z => hf y h2 z.symm), Nat.add_zero]
  · rw [if_neg h2, if_neg h2]
theorem tally_0 (f old : Nat → Int32) : tallyRow f old 0 = upto 141 (fun _ => 0) old := by funext y; rfl

set_option maxRecDepth 100000 in
set_option maxHeartbeats 4000000 in
theorem c_X7_countPitches {g : xG} (hG : GK g) {i : Nat} (hi : i < 11) {m : Mem} {w cn : Nat} (hP : PR m i w cn) : CC g yX7_countPitches (.code yX7_countPitches cX7_countPitches 3 none) 1 0 0 [.ref (ad g (LA i + 5)), .ref (ad g 362)] m (rV (fun m2 => m2 = setRow m 362 (tallyRow (m.1 (LA i + 8)) (m.1 362) cn))) noX := by
  obtain ⟨h1, hw, h3, hc⟩ := hP
  refine CC.mk hG RX7 rfl (by decide +kernel) rfl (Nat.le_of_ble_eq_true rfl) (fun sz B hB hX => ?_)
  show V g B 0 0 _ (hp g m) sz 0 [some (.ref (ad g (LA i + 5))), some (.ref (ad g 362)), none] []
  have l2 : ∀ q : Nat, q ≤ cn → V g B 0 0 (QM g B 0 0 (rV (fun m2 => m2 = setRow m 362 (tallyRow (m.1 (LA i + 8)) (m.1 362) cn))) noX) (hp g ((setRow m 362 (tallyRow (m.1 (LA i + 8)) (m.1 362) q)))) sz 20 [some (.ref (ad g (LA i + 5))), some (.ref (ad g 362)), some (.int (nI q))] [] := by
    refine loop_up (fun q hq ih => ?_)
    have hc2 : (setRow m 362 (tallyRow (m.1 (LA i + 8)) (m.1 362) q)).1 (LA i + 5) 4 = nI cn := by rw [setRow_cell _ _ (by have := LA_lt hi; omega)]; exact h3
    refine V.iload_n (pc := 20) hB dX7_countPitches_20 rfl ?_
    refine V.aload_n (pc := 21) hB dX7_countPitches_21 rfl ?_
    refine V.get (pc := 22) hB fk_Peal 4 wf_X7_25 dX7_countPitches_22 (by decide) (hp_at (ca_Peal (by omega) _)) rfl ?_
    refine V.icmp_ge (pc := 25) (tgt := 66) hB dX7_countPitches_25 (by decide) (fun c_25 => ?_) (fun c_25 => ?_)
    · have hqc : q = cn := nge hc2 (by omega) hq c_25
      refine V.retV (pc := 66) hB dX7_countPitches_66 rfl (by omega) (by omega) ?_
      rw [hqc]
    · have hlt : q < cn := nlt hc2 (by omega) hq c_25
      refine V.aload_n (pc := 28) hB dX7_countPitches_28 rfl ?_
      refine V.get (pc := 29) hB fk_Peal 2 wf_X7_19 dX7_countPitches_29 (by decide) (hp_at (ca_Peal (by omega) _)) rfl ?_
      refine V.iload_n (pc := 32) hB dX7_countPitches_32 rfl ?_
      refine V.ialdM (pc := 33) hB (ca_PPitch (by omega)) dX7_countPitches_33 (ix_nI (by omega) (by decide)) ?_
      rw [setRow_cell _ _ (show LA i + 8 ≠ 362 by have := LA_lt hi; omega)]
      refine V.if_lt (pc := 34) (tgt := 60) hB dX7_countPitches_34 (by decide) (fun c_34 => ?_) (fun c_34 => ?_)
      · have hsk : ∀ p, p < 141 → (m.1 (LA i + 8)) q ≠ nI p := fun p hp z => by rw [z] at c_34; exact nI_pos (by omega) c_34
        refine V.mem (m2 := (setRow m 362 (tallyRow (m.1 (LA i + 8)) (m.1 362) (q + 1)))) (by
          first
          | exact (congrArg (setRow m 362) (tally_skip hsk)).symm
          | exact up_set _ _ _ _ _ _ (tally_inc hp hf)) ?_
        refine V.iinc (pc := 60) (v := nI (q + 1)) hB dX7_countPitches_60 rfl (nI_1 _) (by decide) rfl ?_
        refine V.goto (pc := 63) (tgt := 20) hB dX7_countPitches_63 (by decide) ?_
        exact ih hlt
      · refine V.aload_n (pc := 37) hB dX7_countPitches_37 rfl ?_
        refine V.get (pc := 38) hB fk_Peal 2 wf_X7_19 dX7_countPitches_38 (by decide) (hp_at (ca_Peal (by omega) _)) rfl ?_
        refine V.iload_n (pc := 41) hB dX7_countPitches_41 rfl ?_
        refine V.ialdM (pc := 42) hB (ca_PPitch (by omega)) dX7_countPitches_42 (ix_nI (by omega) (by decide)) ?_
        rw [setRow_cell _ _ (show LA i + 8 ≠ 362 by have := LA_lt hi; omega)]
        refine V.aload_n (pc := 43) hB dX7_countPitches_43 rfl ?_
        refine V.alen (pc := 44) (t := 0) (v := 141) hB rfl dX7_countPitches_44 (hp_at (ca_Tally _)) rfl ?_
        refine V.icmp_ge (pc := 45) (tgt := 60) hB dX7_countPitches_45 (by decide) (fun c_45 => ?_) (fun c_45 => ?_)
        · have hsk : ∀ p, p < 141 → (m.1 (LA i + 8)) q ≠ nI p := fun p hp z => by rw [z] at c_45; have := (nI_leI (a := 141) (by decide) (by omega)).mp c_45; omega
          refine V.mem (m2 := (setRow m 362 (tallyRow (m.1 (LA i + 8)) (m.1 362) (q + 1)))) (by
            first
            | exact (congrArg (setRow m 362) (tally_skip hsk)).symm
            | exact up_set _ _ _ _ _ _ (tally_inc hp hf)) ?_
          refine V.iinc (pc := 60) (v := nI (q + 1)) hB dX7_countPitches_60 rfl (nI_1 _) (by decide) rfl ?_
          refine V.goto (pc := 63) (tgt := 20) hB dX7_countPitches_63 (by decide) ?_
          exact ih hlt
        · obtain ⟨p, hp, hf⟩ : ∃ p, p < 141 ∧ (m.1 (LA i + 8)) q = nI p := by
            obtain ⟨p, hp, hf⟩ := nI_of c_34
            refine ⟨p, ?_, hf⟩
            rw [hf] at c_45
            exact Nat.not_le.mp (fun z => c_45 ((nI_leI (a := 141) (by decide) hp).mpr z))
          refine V.aload_n (pc := 48) hB dX7_countPitches_48 rfl ?_
          refine V.aload_n (pc := 49) hB dX7_countPitches_49 rfl ?_
          refine V.get (pc := 50) hB fk_Peal 2 wf_X7_19 dX7_countPitches_50 (by decide) (hp_at (ca_Peal (by omega) _)) rfl ?_
          refine V.iload_n (pc := 53) hB dX7_countPitches_53 rfl ?_
          refine V.ialdM (pc := 54) hB (ca_PPitch (by omega)) dX7_countPitches_54 (ix_nI (by omega) (by decide)) ?_
          rw [setRow_cell _ _ (show LA i + 8 ≠ 362 by have := LA_lt hi; omega), hf]
          refine V.dup2 (pc := 55) hB dX7_countPitches_55 rfl rfl ?_
          refine V.ialdM (pc := 56) hB (ca_Tally) dX7_countPitches_56 (ix_nI hp (by decide)) ?_
          rw [setRow_same]
          refine V.iconst (pc := 57) (v := 1) hB dX7_countPitches_57 rfl ?_
          refine V.iadd (pc := 58) hB dX7_countPitches_58 ?_
          refine V.iastM (pc := 59) hB (ca_Tally) dX7_countPitches_59 (ix_nI hp (by decide)) (by decide) ?_
          refine V.mem (m2 := (setRow m 362 (tallyRow (m.1 (LA i + 8)) (m.1 362) (q + 1)))) (by
            first
            | exact (congrArg (setRow m 362) (tally_skip hsk)).symm
            | exact up_set _ _ _ _ _ _ (tally_inc hp hf)) ?_
          refine V.iinc (pc := 60) (v := nI (q + 1)) hB dX7_countPitches_60 rfl (nI_1 _) (by decide) rfl ?_
          refine V.goto (pc := 63) (tgt := 20) hB dX7_countPitches_63 (by decide) ?_
          exact ih hlt
  have l1 : ∀ q : Nat, q ≤ 141 → V g B 0 0 (QM g B 0 0 (rV (fun m2 => m2 = setRow m 362 (tallyRow (m.1 (LA i + 8)) (m.1 362) cn))) noX) (hp g ((setRow m 362 (upto q (fun _ => 0) (m.1 362))))) sz 2 [some (.ref (ad g (LA i + 5))), some (.ref (ad g 362)), some (.int (nI q))] [] := by
    refine loop_up (fun q hq ih => ?_)
    refine V.iload_n (pc := 2) hB dX7_countPitches_2 rfl ?_
    refine V.aload_n (pc := 3) hB dX7_countPitches_3 rfl ?_
    refine V.alen (pc := 4) (t := 0) (v := 141) hB rfl dX7_countPitches_4 (hp_at (ca_Tally _)) rfl ?_
    refine V.icmp_ge (pc := 5) (tgt := 18) hB dX7_countPitches_5 (by decide) (fun c_5 => ?_) (fun c_5 => ?_)
    · have hqc : q = 141 := Nat.le_antisymm hq ((nI_leI (a := 141) (by decide) (by omega)).mp c_5)
      refine V.iconst (pc := 18) (v := 0) hB dX7_countPitches_18 rfl ?_
      refine V.istore_n (pc := 19) hB dX7_countPitches_19 (by decide) rfl ?_
      have h0 := l2 0 (by omega)
      rw [tally_0, ← hqc] at h0
      exact h0
    · have hlt : q < 141 := Nat.not_le.mp (fun z => c_5 ((nI_leI (a := 141) (by decide) (by omega)).mpr z))
      refine V.aload_n (pc := 8) hB dX7_countPitches_8 rfl ?_
      refine V.iload_n (pc := 9) hB dX7_countPitches_9 rfl ?_
      refine V.iconst (pc := 10) (v := 0) hB dX7_countPitches_10 rfl ?_
      refine V.iastM (pc := 11) hB (ca_Tally) dX7_countPitches_11 (ix_nI (by omega) (by decide)) (by decide) ?_
      refine V.mem (m2 := (setRow m 362 (upto (q + 1) (fun _ => 0) (m.1 362)))) (up_set _ _ _ _ _ _ (upto_succ rfl)) ?_
      refine V.iinc (pc := 12) (v := nI (q + 1)) hB dX7_countPitches_12 rfl (nI_1 _) (by decide) rfl ?_
      refine V.goto (pc := 15) (tgt := 2) hB dX7_countPitches_15 (by decide) ?_
      exact ih hlt
  refine V.iconst (pc := 0) (v := 0) hB dX7_countPitches_0 rfl ?_
  refine V.istore_n (pc := 1) hB dX7_countPitches_1 (by decide) rfl ?_
  have h0 := l1 0 (by omega)
  rw [upto_zero, setRow_id] at h0
  exact h0

set_option maxRecDepth 100000 in
set_option maxHeartbeats 4000000 in
theorem c_X7_pairsByCounting {g : xG} (hG : GK g) {i : Nat} (hi : i < 11) {m : Mem} {w cn : Nat} (hP : PR m i w cn) : CC g yX7_pairsByCounting (.code yX7_pairsByCounting cX7_pairsByCounting 4 (some .int)) 2 0 0 [.ref (ad g (LA i + 5)), .ref (ad g 362)] m (rI (fun v m2 => v = l_sum (fun p => nI (cntEq (m.1 (LA i + 8)) (nI p) cn) * (nI (cntEq (m.1 (LA i + 8)) (nI p) cn) - 1) / 2) 141 ∧ m2 = setRow m 362 (tallyRow (m.1 (LA i + 8)) (m.1 362) cn))) noX := by
  refine CC.mk hG RX7 rfl (by decide +kernel) rfl (Nat.le_of_ble_eq_true rfl) (fun sz B hB hX => ?_)
  show V g B 0 0 _ (hp g m) sz 0 [some (.ref (ad g (LA i + 5))), some (.ref (ad g 362)), none, none] []
  have l1 : ∀ q : Nat, q ≤ 141 → ∀ (sz : Nat), V g B 0 0 (QM g B 0 0 (rI (fun v m2 => v = l_sum (fun p => nI (cntEq (m.1 (LA i + 8)) (nI p) cn) * (nI (cntEq (m.1 (LA i + 8)) (nI p) cn) - 1) / 2) 141 ∧ m2 = setRow m 362 (tallyRow (m.1 (LA i + 8)) (m.1 362) cn))) noX) (hp g ((setRow m 362 (tallyRow (m.1 (LA i + 8)) (m.1 362) cn)))) sz 9 [some (.ref (ad g (LA i + 5))), some (.ref (ad g 362)), some (.int (l_sum (fun p => nI (cntEq (m.1 (LA i + 8)) (nI p) cn) * (nI (cntEq (m.1 (LA i + 8)) (nI p) cn) - 1) / 2) q)), some (.int (nI q))] [] := by
    refine loop_up (fun q hq ih => ?_)
    intro sz
    refine V.iload_n (pc := 9) hB dX7_pairsByCounting_9 rfl ?_
    refine V.aload_n (pc := 10) hB dX7_pairsByCounting_10 rfl ?_
    refine V.alen (pc := 11) (t := 0) (v := 141) hB rfl dX7_pairsByCounting_11 (hp_at (ca_Tally _)) rfl ?_
    refine V.icmp_ge (pc := 12) (tgt := 35) hB dX7_pairsByCounting_12 (by decide) (fun c_12 => ?_) (fun c_12 => ?_)
    · have hqc : q = 141 := Nat.le_antisymm hq ((nI_leI (a := 141) (by decide) (by omega)).mp c_12)
      refine V.iload_n (pc := 35) hB dX7_pairsByCounting_35 rfl ?_
      refine V.retI (pc := 36) hB dX7_pairsByCounting_36 rfl (rfl) (by omega) (by omega) ?_
      rw [hqc]
      exact ⟨rfl, rfl⟩
    · have hlt : q < 141 := Nat.not_le.mp (fun z => c_12 ((nI_leI (a := 141) (by decide) (by omega)).mpr z))
      refine V.iload_n (pc := 15) hB dX7_pairsByCounting_15 rfl ?_
      refine V.aload_n (pc := 16) hB dX7_pairsByCounting_16 rfl ?_
      refine V.iload_n (pc := 17) hB dX7_pairsByCounting_17 rfl ?_
      refine V.ialdM (pc := 18) hB (ca_Tally) dX7_pairsByCounting_18 (ix_nI (by omega) (by decide)) ?_
      rw [setRow_same, show tallyRow (m.1 (LA i + 8)) (m.1 362) cn q = nI (cntEq (m.1 (LA i + 8)) (nI q) cn) from if_pos hlt]
      refine V.aload_n (pc := 19) hB dX7_pairsByCounting_19 rfl ?_
      refine V.iload_n (pc := 20) hB dX7_pairsByCounting_20 rfl ?_
      refine V.ialdM (pc := 21) hB (ca_Tally) dX7_pairsByCounting_21 (ix_nI (by omega) (by decide)) ?_
      rw [setRow_same, show tallyRow (m.1 (LA i + 8)) (m.1 362) cn q = nI (cntEq (m.1 (LA i + 8)) (nI q) cn) from if_pos hlt]
      refine V.iconst (pc := 22) (v := 1) hB dX7_pairsByCounting_22 rfl ?_
      refine V.isub (pc := 23) hB dX7_pairsByCounting_23 ?_
      refine V.imul (pc := 24) hB dX7_pairsByCounting_24 ?_
      refine V.iconst (pc := 25) (v := 2) hB dX7_pairsByCounting_25 rfl ?_
      refine V.idiv (pc := 26) hB dX7_pairsByCounting_26 (by decide) ?_
      refine V.iadd (pc := 27) hB dX7_pairsByCounting_27 ?_
      refine V.istore_n (pc := 28) hB dX7_pairsByCounting_28 (by decide) rfl ?_
      refine V.iinc (pc := 29) (v := nI (q + 1)) hB dX7_pairsByCounting_29 rfl (nI_1 _) (by decide) rfl ?_
      refine V.goto (pc := 32) (tgt := 9) hB dX7_pairsByCounting_32 (by decide) ?_
      exact ih hlt sz
  refine V.aload_n (pc := 0) hB dX7_pairsByCounting_0 rfl ?_
  refine V.aload_n (pc := 1) hB dX7_pairsByCounting_1 rfl ?_
  refine V.cv (pc := 2) hB cw_X7_countPitches wm_X7_47 wi_X7_countPitches ws_X7_countPitches dX7_pairsByCounting_2 (c_X7_countPitches hG hi hP) (hp_at (ca_Peal (by omega) _)) fk_Peal rfl (by omega) (by decide) rfl (by exact Nat.le_of_ble_eq_true rfl) (by omega) (by omega) kN (kV (fun m_2 sz h_2 => ?_)) rfl
  subst h_2
  refine V.iconst (pc := 5) (v := 0) hB dX7_pairsByCounting_5 rfl ?_
  refine V.istore_n (pc := 6) hB dX7_pairsByCounting_6 (by decide) rfl ?_
  refine V.iconst (pc := 7) (v := 0) hB dX7_pairsByCounting_7 rfl ?_
  refine V.istore_n (pc := 8) hB dX7_pairsByCounting_8 (by decide) rfl ?_
  exact l1 0 (by omega) sz

set_option maxRecDepth 100000 in
set_option maxHeartbeats 4000000 in
theorem c_X7_differentPitches {g : xG} (hG : GK g) {i : Nat} (hi : i < 11) {m : Mem} {w cn : Nat} (hP : PR m i w cn) : CC g yX7_differentPitches (.code yX7_differentPitches cX7_differentPitches 4 (some .int)) 2 0 0 [.ref (ad g (LA i + 5)), .ref (ad g 362)] m (rI (fun v m2 => v = nI (cntPos (fun p => nI (cntEq (m.1 (LA i + 8)) (nI p) cn)) 141) ∧ m2 = setRow m 362 (tallyRow (m.1 (LA i + 8)) (m.1 362) cn))) noX := by
  refine CC.mk hG RX7 rfl (by decide +kernel) rfl (Nat.le_of_ble_eq_true rfl) (fun sz B hB hX => ?_)
  show V g B 0 0 _ (hp g m) sz 0 [some (.ref (ad g (LA i + 5))), some (.ref (ad g 362)), none, none] []
  have l1 : ∀ q : Nat, q ≤ 141 → ∀ (sz : Nat), V g B 0 0 (QM g B 0 0 (rI (fun v m2 => v = nI (cntPos (fun p => nI (cntEq (m.1 (LA i + 8)) (nI p) cn)) 141) ∧ m2 = setRow m 362 (tallyRow (m.1 (LA i + 8)) (m.1 362) cn))) noX) (hp g ((setRow m 362 (tallyRow (m.1 (LA i + 8)) (m.1 362) cn)))) sz 9 [some (.ref (ad g (LA i + 5))), some (.ref (ad g 362)), some (.int (nI (cntPos (fun p => nI (cntEq (m.1 (LA i + 8)) (nI p) cn)) q))), some (.int (nI q))] [] := by
    refine loop_up (fun q hq ih => ?_)
    intro sz
    refine V.iload_n (pc := 9) hB dX7_differentPitches_9 rfl ?_
    refine V.aload_n (pc := 10) hB dX7_differentPitches_10 rfl ?_
    refine V.alen (pc := 11) (t := 0) (v := 141) hB rfl dX7_differentPitches_11 (hp_at (ca_Tally _)) rfl ?_
    refine V.icmp_ge (pc := 12) (tgt := 30) hB dX7_differentPitches_12 (by decide) (fun c_12 => ?_) (fun c_12 => ?_)
    · have hqc : q = 141 := Nat.le_antisymm hq ((nI_leI (a := 141) (by decide) (by omega)).mp c_12)
      refine V.iload_n (pc := 30) hB dX7_differentPitches_30 rfl ?_
      refine V.retI (pc := 31) hB dX7_differentPitches_31 rfl (rfl) (by omega) (by omega) ?_
      rw [hqc]
      exact ⟨rfl, rfl⟩
    · have hlt : q < 141 := Nat.not_le.mp (fun z => c_12 ((nI_leI (a := 141) (by decide) (by omega)).mpr z))
      refine V.aload_n (pc := 15) hB dX7_differentPitches_15 rfl ?_
      refine V.iload_n (pc := 16) hB dX7_differentPitches_16 rfl ?_
      refine V.ialdM (pc := 17) hB (ca_Tally) dX7_differentPitches_17 (ix_nI (by omega) (by decide)) ?_
      rw [setRow_same, show tallyRow (m.1 (LA i + 8)) (m.1 362) cn q = nI (cntEq (m.1 (LA i + 8)) (nI q) cn) from if_pos hlt]
      refine V.if_le (pc := 18) (tgt := 24) hB dX7_differentPitches_18 (by decide) (fun c_18 => ?_) (fun c_18 => ?_)
      · refine V.iinc (pc := 24) (v := nI (q + 1)) hB dX7_differentPitches_24 rfl (nI_1 _) (by decide) rfl ?_
        refine V.goto (pc := 27) (tgt := 9) hB dX7_differentPitches_27 (by decide) ?_
        first
        | exact ih hlt sz
        | (have h0 := ih hlt sz
           rw [show cntPos (fun p => nI (cntEq (m.1 (LA i + 8)) (nI p) cn)) (q + 1) = cntPos (fun p => nI (cntEq (m.1 (LA i + 8)) (nI p) cn)) q from (congrArg (fun z => cntPos (fun p => nI (cntEq (m.1 (LA i + 8)) (nI p) cn)) q + z) (if_neg (Int32.not_lt.mpr c_18))).trans (Nat.add_zero _)] at h0
           exact h0)
      · refine V.iinc (pc := 21) (v := nI (cntPos (fun p => nI (cntEq (m.1 (LA i + 8)) (nI p) cn)) (q + 1))) hB dX7_differentPitches_21 rfl (by refine (nI_1 _).trans ?_; congr 1; show _ = cntPos (fun p => nI (cntEq (m.1 (LA i + 8)) (nI p) cn)) q + (if 0 < (fun p => nI (cntEq (m.1 (LA i + 8)) (nI p) cn)) q then 1 else 0); rw [if_pos (Int32.not_le.mp c_18)]) (by decide) rfl ?_
        refine V.iinc (pc := 24) (v := nI (q + 1)) hB dX7_differentPitches_24 rfl (nI_1 _) (by decide) rfl ?_
        refine V.goto (pc := 27) (tgt := 9) hB dX7_differentPitches_27 (by decide) ?_
        first
        | exact ih hlt sz
        | (have h0 := ih hlt sz
           rw [show cntPos (fun p => nI (cntEq (m.1 (LA i + 8)) (nI p) cn)) (q + 1) = cntPos (fun p => nI (cntEq (m.1 (LA i + 8)) (nI p) cn)) q from (congrArg (fun z => cntPos (fun p => nI (cntEq (m.1 (LA i + 8)) (nI p) cn)) q + z) (if_neg (Int32.not_lt.mpr c_18))).trans (Nat.add_zero _)] at h0
           exact h0)
  refine V.aload_n (pc := 0) hB dX7_differentPitches_0 rfl ?_
  refine V.aload_n (pc := 1) hB dX7_differentPitches_1 rfl ?_
  refine V.cv (pc := 2) hB cw_X7_countPitches wm_X7_47 wi_X7_countPitches ws_X7_countPitches dX7_differentPitches_2 (c_X7_countPitches hG hi hP) (hp_at (ca_Peal (by omega) _)) fk_Peal rfl (by omega) (by decide) rfl (by exact Nat.le_of_ble_eq_true rfl) (by omega) (by omega) kN (kV (fun m_2 sz h_2 => ?_)) rfl
  subst h_2
  refine V.iconst (pc := 5) (v := 0) hB dX7_differentPitches_5 rfl ?_
  refine V.istore_n (pc := 6) hB dX7_differentPitches_6 (by decide) rfl ?_
  refine V.iconst (pc := 7) (v := 0) hB dX7_differentPitches_7 rfl ?_
  refine V.istore_n (pc := 8) hB dX7_differentPitches_8 (by decide) rfl ?_
  exact l1 0 (by omega) sz
