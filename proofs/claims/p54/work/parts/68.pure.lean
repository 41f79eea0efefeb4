/-! what the check of a lake says, in numbers -/
def okL (l : List Int32) : Bool := l.all fun c => decide (0 ≤ c) && decide (c < 128)
theorem okL_app (a b : List Int32) : okL (a ++ b) = (okL a && okL b) := List.all_append
theorem txt_ok0 : ∀ a, a ≤ 99 → okL (txtI (nI a)) = true ∧ okL (txtI (-(nI a))) = true := by decide +kernel
theorem txt_ok {a : Nat} {v : Int32} (ha : a ≤ 99) (h : n99 a v) : okL (txtI v) = true := by
  rcases h with ⟨e, _⟩ | ⟨e, _⟩
  · rw [e]; exact (txt_ok0 a ha).1
  · rw [e]; exact (txt_ok0 a ha).2
theorem lnT_ok {K T S : Nat → Int32} {N : Nat} (h : VB K T N) : ∀ y, y ≤ N → okL (lnT K T S y) = true
  | 0, _ => rfl
  | y + 1, hy => by
    obtain ⟨a, ha, hv⟩ := h.k (y := y) (by omega)
    obtain ⟨b, hb, hw⟩ := h.t (y := y) (by omega)
    show okL (lnT K T S y ++ lyT K T S y) = true
    unfold lyT
    rw [okL_app, okL_app, okL_app, okL_app, okL_app, lnT_ok h y (by omega), txt_ok ha hv, txt_ok hb hw]
    split <;> split <;> decide
theorem okL_at {l : List Int32} (h : okL l = true) : ∀ j, j < l.length → ∃ c, c < 128 ∧ l.getD j 0 = nI c := by
  intro j hj
  have e : l.getD j 0 = l[j] := by simp [List.getD, hj]
  have hm := List.all_eq_true.mp h l[j] (List.getElem_mem hj)
  rw [Bool.and_eq_true] at hm
  obtain ⟨c, hc, ec⟩ := nI_of (Int32.not_lt.mpr (of_decide_eq_true hm.1))
  have h2 := of_decide_eq_true hm.2
  rw [ec] at h2
  exact ⟨c, (nI_ltI (b := 128) hc (by decide)).mp h2, e.trans ec⟩
theorem vf_toNat {z : UInt64} (h : vf_n64 z) : z.toNat % 9223372036854775808 ≤ 9218868437227405312 := by
  unfold vf_n64 at h
  have h1 := UInt64.le_iff_toNat_le.mp h
  rw [UInt64.toNat_and, show (0x7fffffffffffffff : UInt64).toNat = 2 ^ 63 - 1 from rfl, Nat.and_two_pow_sub_one_eq_mod, show (0x7ff0000000000000 : UInt64).toNat = 9218868437227405312 from rfl] at h1
  exact h1
theorem dec_n64 {n : Nat} (h : n % 9223372036854775808 ≤ 9218868437227405312) : ¬ FP.Core.decode FP.Core.b64 n = .nan := by
  unfold FP.Core.decode FP.Core.fieldE FP.Core.fieldT
  have e1 : FP.Core.b64.tails = 4503599627370496 := rfl
  have e2 : FP.Core.b64.exps = 2048 := rfl
  rw [e1, e2]
  split
  · split
    · intro z; cases z
    · exfalso; omega
  · split
    · intro z; cases z
    · intro z; cases z
theorem dcmp_id {z : UInt64} (h : vf_n64 z) : FP.dcmp z z = some .eq := by
  have h1 := dec_n64 (vf_toNat h)
  show FP.Core.order (FP.Core.decode FP.Core.b64 z.toNat) (FP.Core.decode FP.Core.b64 z.toNat) = some .eq
  generalize FP.Core.decode FP.Core.b64 z.toNat = d at h1
  have hc : ∀ x : Int, compare x x = Ordering.eq := fun x => by simp [compare, compareOfLessAndEq]
  cases d with
  | nan => exact absurd rfl h1
  | inf s => exact congrArg some (hc _)
  | fin s c q => exact congrArg some (hc _)
theorem vf_toNat32 {z : UInt32} (h : vf_n32 z) : z.toNat % 2147483648 ≤ 2139095040 := by
  unfold vf_n32 at h
  have h1 := UInt32.le_iff_toNat_le.mp h
  rw [UInt32.toNat_and, show (0x7fffffff : UInt32).toNat = 2 ^ 31 - 1 from rfl, Nat.and_two_pow_sub_one_eq_mod, show (0x7f800000 : UInt32).toNat = 2139095040 from rfl] at h1
  exact h1
theorem dec_n32 {n : Nat} (h : n % 2147483648 ≤ 2139095040) : ¬ FP.Core.decode FP.Core.b32 n = .nan := by
  unfold FP.Core.decode FP.Core.fieldE FP.Core.fieldT
  have e1 : FP.Core.b32.tails = 8388608 := rfl
  have e2 : FP.Core.b32.exps = 256 := rfl
  rw [e1, e2]
  split
  · split
    · intro z; cases z
    · exfalso; omega
  · split
    · intro z; cases z
    · intro z; cases z
theorem fcmp_id {z : UInt32} (h : vf_n32 z) : FP.fcmp z z = some .eq := by
  have h1 := dec_n32 (vf_toNat32 h)
  show FP.Core.order (FP.Core.decode FP.Core.b32 z.toNat) (FP.Core.decode FP.Core.b32 z.toNat) = some .eq
  generalize FP.Core.decode FP.Core.b32 z.toNat = d at h1
  have hc : ∀ x : Int, compare x x = Ordering.eq := fun x => by simp [compare, compareOfLessAndEq]
  cases d with
  | nan => exact absurd rfl h1
  | inf s => exact congrArg some (hc _)
  | fin s c q => exact congrArg some (hc _)

theorem cmp_l0 {o : Option Ordering} (h : o = some .eq) : Op.cmpValue o .l = 0 := by subst h; rfl
theorem lc_lo {K : Nat → Int32} {x : Int32} : ∀ q, (∀ p, p ≤ q → ¬ x < l_sum K p) → lcF K x q = -1
  | 0, _ => rfl
  | q + 1, h => by
    show (if lcF K x q = -1 then (if x < l_sum K (q + 1) then nI q else -1) else lcF K x q) = -1
    rw [if_pos (lc_lo q (fun p hp => h p (by omega))), if_neg (h _ (Nat.le_refl _))]
theorem VB.num {K T : Nat → Int32} {N y : Nat} (h : VB K T N) (hy : y < N) : ∃ a, K y = nI a ∧ 1 ≤ a ∧ a ≤ 50 := by
  obtain ⟨k, hk, e⟩ := nI_of (x := K y) (Int32.not_lt.mpr (Int32.le_trans (show (0 : Int32) ≤ 1 by decide) (h y hy).1.1))
  have a := (h y hy).1
  rw [e] at a
  exact ⟨k, e, (nI_leI (a := 1) (by decide) (by omega)).mp a.1, (nI_leI (b := 50) (by omega) (by decide)).mp a.2⟩
theorem sum_mono {K T : Nat → Int32} {N p : Nat} (h : VB K T N) : ∀ d, p + d ≤ N → ∃ a b, l_sum K p = nI a ∧ l_sum K (p + d) = nI b ∧ a ≤ b ∧ b ≤ 50 * (p + d)
  | 0, hp => by
    obtain ⟨s, h1, h2, h3⟩ := ice_nat p (fun y hy => h y (by omega))
    exact ⟨s, s, h1, h1, Nat.le_refl _, h3⟩
  | d + 1, hp => by
    obtain ⟨a, b, h1, h2, h3, h4⟩ := sum_mono (p := p) h d (by omega)
    obtain ⟨c, e, c1, c2⟩ := h.num (y := p + d) (by omega)
    refine ⟨a, b + c, h1, ?_, by omega, by omega⟩
    show l_sum K (p + d) + K (p + d) = _
    rw [h2, e, nI_add]
theorem lay_facts {K T : Nat → Int32} {N y : Nat} (h : VB K T N) (h8 : N ≤ 8) (hy : y < N) : ∃ s a, l_sum K y = nI s ∧ K y = nI a ∧ 1 ≤ a ∧ a ≤ 50 ∧ s ≤ 400 ∧ lcV K (nI s) N = nI y ∧ lcV K (nI (s + a - 1)) N = nI y ∧ l_sum K (y + 1) = nI (s + a) := by
  obtain ⟨a, e, a1, a2⟩ := h.num hy
  obtain ⟨s, h1, h2, h3⟩ := ice_nat y (fun j hj => h j (by omega))
  have hs : l_sum K (y + 1) = nI (s + a) := by
    show l_sum K y + K y = _
    rw [h1, e, nI_add]
  have key : ∀ x, s ≤ x → x < s + a → lcV K (nI x) N = nI y := fun x hx1 hx2 => by
    unfold lcV
    rw [if_neg (nI_pos (by omega))]
    refine lcF_stay (by omega) (lc_lo y (fun p hp z => ?_)) (by rw [hs]; exact (nI_ltI (by omega) (by omega)).mpr hx2) N hy
    obtain ⟨a9, b9, e1, e2, e3, e4⟩ := sum_mono (p := p) h (y - p) (by omega)
    rw [show p + (y - p) = y by omega] at e2 e4
    rw [e1] at z
    have hbs : b9 = s := (nI_eq (by omega) (by omega)).mp (e2.symm.trans h1)
    exact absurd ((nI_ltI (by omega) (by omega)).mp z) (by omega)
  exact ⟨s, a, h1, e, a1, a2, by omega, key s (by omega) (by omega), key (s + a - 1) (by omega) (by omega), hs⟩
theorem lay_end {K T : Nat → Int32} {N : Nat} (h : VB K T N) (h8 : N ≤ 8) : ∃ s, l_sum K N = nI s ∧ s ≤ 400 ∧ lcV K (nI s) N = -1 := by
  obtain ⟨s, h1, h2, h3⟩ := ice_nat N h
  refine ⟨s, h1, by omega, ?_⟩
  unfold lcV
  rw [if_neg (nI_pos (by omega))]
  refine lc_lo N (fun p hp z => ?_)
  obtain ⟨a9, b9, e1, e2, e3, e4⟩ := sum_mono (p := p) h (N - p) (by omega)
  rw [show p + (N - p) = N by omega] at e2 e4
  rw [e1] at z
  have hbs : b9 = s := (nI_eq (by omega) (by omega)).mp (e2.symm.trans h1)
  exact absurd ((nI_ltI (by omega) (by omega)).mp z) (by omega)
theorem pit_K {K T : Nat → Int32} {y : Nat} (h : 1 ≤ K y) : pitchV K T y = 100 / K y - T y := by
  unfold pitchV
  by_cases e : 1 < K y
  · rw [if_pos e]
  · rw [if_neg e, show K y = 1 from Int32.le_antisymm (Int32.not_lt.mp e) h]
