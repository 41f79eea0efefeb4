/-! ranks of lakes: each rank below the count is a lake's; the lakes stand in order -/
theorem php : ∀ (n : Nat) (f : Nat → Nat), (∀ a, a < n + 1 → f a < n) → (∀ a b, a < n + 1 → b < n + 1 → f a = f b → a = b) → False
  | 0, f, h, _ => absurd (h 0 (by omega)) (by omega)
  | n + 1, f, h, hi => by
    refine php n (fun a => if f (n + 1) < f a then f a - 1 else f a) (fun a ha => ?_) (fun a b ha hb e => ?_)
    · have h1 := h a (by omega)
      have h2 := h (n + 1) (by omega)
      have h3 : f a ≠ f (n + 1) := fun z => by have := hi _ _ (by omega) (by omega) z; omega
      show (if f (n + 1) < f a then f a - 1 else f a) < n
      split <;> omega
    · have h3 : f a ≠ f (n + 1) := fun z => by have := hi _ _ (by omega) (by omega) z; omega
      have h4 : f b ≠ f (n + 1) := fun z => by have := hi _ _ (by omega) (by omega) z; omega
      have e' : (if f (n + 1) < f a then f a - 1 else f a) = (if f (n + 1) < f b then f b - 1 else f b) := e
      refine hi a b (by omega) (by omega) ?_
      split at e' <;> split at e' <;> omega
theorem inj_onto {n : Nat} {f : Nat → Nat} (h : ∀ a, a < n → f a < n) (hi : ∀ a b, a < n → b < n → f a = f b → a = b) {k : Nat} (hk : k < n) : ∃ a, a < n ∧ f a = k := by
  by_cases hx : ∃ a, a < n ∧ f a = k
  · exact hx
  · exfalso
    obtain ⟨n', rfl⟩ : ∃ n', n = n' + 1 := ⟨n - 1, by omega⟩
    have hne : ∀ a, a < n' + 1 → f a ≠ k := fun a ha z => hx ⟨a, ha, z⟩
    refine php n' (fun a => if k < f a then f a - 1 else f a) (fun a ha => ?_) (fun a b ha hb e => ?_)
    · have h1 := h a ha
      have h2 := hne a ha
      show (if k < f a then f a - 1 else f a) < n'
      split <;> omega
    · have h2 := hne a ha
      have h3 := hne b hb
      have e' : (if k < f a then f a - 1 else f a) = (if k < f b then f b - 1 else f b) := e
      refine hi a b ha hb ?_
      split at e' <;> split at e' <;> omega
theorem cntB_all : ∀ n, cntB (fun _ => true) n = n
  | 0 => rfl
  | n + 1 => by
    show cntB (fun _ => true) n + (if true = true then 1 else 0) = n + 1
    rw [cntB_all n, if_pos rfl]
theorem bf_lt {S C : Nat → Nat} {n x y : Nat} (hx : x < n) (hxy : bfP S C x y) : cntB (fun b => decide (bfP S C b x)) n < cntB (fun b => decide (bfP S C b y)) n :=
  cntB_strict (a := x) n (fun b _ hb => decide_eq_true (by have := of_decide_eq_true hb; unfold bfP at *; omega)) hx (decide_eq_false (by unfold bfP; omega)) (decide_eq_true hxy)
theorem bf_top {S C : Nat → Nat} {n x : Nat} (hx : x < n) : cntB (fun b => decide (bfP S C b x)) n < n := by
  have := cntB_strict (f := fun b => decide (bfP S C b x)) (h := fun _ => true) (a := x) n (fun _ _ _ => rfl) hx (decide_eq_false (by unfold bfP; omega)) rfl
  rwa [cntB_all] at this
theorem first_no {p : Nat → Bool} : ∀ q, (∀ a, a < q → p a = false) → firstI p q = -1
  | 0, _ => rfl
  | q + 1, h => by
    show (if firstI p q = -1 then (if p q = true then nI q else -1) else firstI p q) = -1
    rw [if_pos (first_no q (fun a ha => h a (by omega))), if_neg (by rw [h q (by omega)]; decide)]
theorem first_at {p : Nat → Bool} {a : Nat} (ha9 : a < 1000) (h1 : p a = true) (h2 : ∀ b, b < a → p b = false) : ∀ q, a < q → firstI p q = nI a
  | 0, h => absurd h (by omega)
  | q + 1, h => by
    show (if firstI p q = -1 then (if p q = true then nI q else -1) else firstI p q) = nI a
    by_cases e : a = q
    · subst e
      rw [if_pos (first_no a h2), if_pos h1]
    · have h3 := first_at ha9 h1 h2 q (by omega)
      rw [if_neg (by rw [h3]; intro z; exact absurd (show nI a < 0 by rw [z]; decide) (nI_pos (by omega))), h3]
theorem sub_gt {a b : Nat} (ha : a ≤ 1000000) (hb : b ≤ 1000000) : 0 < nI a - nI b ↔ b < a := by
  rw [Int32.lt_iff_toInt_lt, pk_sub_toInt (by omega) (by omega), show (0 : Int32).toInt = 0 from rfl]
  omega
theorem sub_z {a b : Nat} (ha : a ≤ 1000000) (hb : b ≤ 1000000) : nI a - nI b = 0 ↔ a = b := by
  rw [← Int32.toInt_inj, pk_sub_toInt (by omega) (by omega), show (0 : Int32).toInt = 0 from rfl]
  omega
abbrev rkP (m : Mem) (x : Int32) : Nat → Bool := fun q => decide (nI (rankN m 0 q (nLk m 0)) = x)
theorem rank_all {K : Nat} {m : Mem} (hI : CI m) (hX : XL m 0) (hC : CB K m 0) (hK : K ≤ 1000000) : ∃ S C R : Nat → Nat, (∀ j, j < nLk m 0 → iceV m 0 j = nI (S j) ∧ S j ≤ 400) ∧ (∀ j, j < nLk m 0 → m.1 (LK 0 j) 5 = nI (C j) ∧ C j ≤ K) ∧ (∀ k, k < nLk m 0 → R k < nLk m 0 ∧ firstI (rkP m (nI k)) (nLk m 0) = nI (R k)) ∧ (∀ k, k + 1 < nLk m 0 → bfP S C (R k) (R (k + 1))) ∧ firstI (rkP m (nI (nLk m 0))) (nLk m 0) = -1 ∧ firstI (rkP m (-1)) (nLk m 0) = -1 := by
  have h5 := hI.1.nl5
  have hS : ∀ j, j < nLk m 0 → iceV m 0 j = nI ((iceV m 0 j).toNatClampNeg) ∧ (iceV m 0 j).toNatClampNeg ≤ 400 := fun j hj => by
    obtain ⟨s, h1, h2, h3⟩ := ice_nat (nLy m 0 j) (hX.1.1 j hj)
    have h8 := (hI.1.ln hj).2
    have e : iceV m 0 j = nI s := h1
    rw [e, nI_clamp (by omega)]
    exact ⟨rfl, by omega⟩
  have hC2 : ∀ j, j < nLk m 0 → m.1 (LK 0 j) 5 = nI ((m.1 (LK 0 j) 5).toNatClampNeg) ∧ (m.1 (LK 0 j) 5).toNatClampNeg ≤ K := fun j hj => by
    obtain ⟨c, hc, e⟩ := hC j hj
    rw [e, nI_clamp (by omega)]
    exact ⟨rfl, hc⟩
  have hr : ∀ a, a < nLk m 0 → rankN m 0 a (nLk m 0) = cntB (fun b => decide (bfP (fun j => (iceV m 0 j).toNatClampNeg) (fun j => (m.1 (LK 0 j) 5).toNatClampNeg) b a)) (nLk m 0) := fun a ha => rank_bf (K := K) (by omega) hS hC2 ha _ (Nat.le_refl _)
  have hlt : ∀ a, a < nLk m 0 → rankN m 0 a (nLk m 0) < nLk m 0 := fun a ha => by rw [hr a ha]; exact bf_top ha
  have hinj : ∀ a b, a < nLk m 0 → b < nLk m 0 → rankN m 0 a (nLk m 0) = rankN m 0 b (nLk m 0) → a = b := fun a b ha hb e => by
    rw [hr a ha, hr b hb] at e
    exact bf_inj ha hb e
  have hon : ∀ k, ∃ a, k < nLk m 0 → a < nLk m 0 ∧ rankN m 0 a (nLk m 0) = k := fun k => by
    by_cases hk : k < nLk m 0
    · obtain ⟨a, h1, h2⟩ := inj_onto hlt hinj hk
      exact ⟨a, fun _ => ⟨h1, h2⟩⟩
    · exact ⟨0, fun h => absurd h hk⟩
  refine ⟨_, _, fun k => (hon k).choose, hS, hC2, fun k hk => ?_, fun k hk => ?_, ?_, ?_⟩
  · obtain ⟨h1, h2⟩ := (hon k).choose_spec hk
    show (hon k).choose < nLk m 0 ∧ firstI (rkP m (nI k)) (nLk m 0) = nI (hon k).choose
    generalize (hon k).choose = x at h1 h2
    refine ⟨h1, first_at (by omega) (decide_eq_true (by rw [h2])) (fun b hb => decide_eq_false (fun z => ?_)) _ h1⟩
    have h3 := hlt b (by omega)
    have h4 := (nI_eq (by omega) (by omega)).mp z
    have := hinj b x (by omega) h1 (h4.trans h2.symm)
    omega
  · obtain ⟨h1, h2⟩ := (hon k).choose_spec (by omega)
    obtain ⟨h3, h4⟩ := (hon (k + 1)).choose_spec hk
    show bfP _ _ (hon k).choose (hon (k + 1)).choose
    generalize (hon k).choose = x at h1 h2
    generalize (hon (k + 1)).choose = y at h3 h4
    have hxy : bfP (fun j => (iceV m 0 j).toNatClampNeg) (fun j => (m.1 (LK 0 j) 5).toNatClampNeg) x y ∨ bfP (fun j => (iceV m 0 j).toNatClampNeg) (fun j => (m.1 (LK 0 j) 5).toNatClampNeg) y x := by
      have hne : x ≠ y := fun z => by subst z; omega
      unfold bfP
      omega
    rcases hxy with h | h
    · exact h
    · have := bf_lt h3 h
      rw [← hr x h1, ← hr y h3] at this
      omega
  · refine first_no _ (fun a ha => decide_eq_false (fun z => ?_))
    have h3 := hlt a ha
    have := (nI_eq (by omega) (by omega)).mp z
    omega
  · refine first_no _ (fun a ha => decide_eq_false (fun z => ?_))
    have h3 := hlt a ha
    exact absurd (show nI (rankN m 0 a (nLk m 0)) < 0 by rw [z]; decide) (nI_pos (by omega))
theorem l_sum_cg {f h : Nat → Int32} : ∀ n, (∀ j, j < n → f j = h j) → l_sum f n = l_sum h n
  | 0, _ => rfl
  | n + 1, e => by
    show l_sum f n + f n = l_sum h n + h n
    rw [l_sum_cg n (fun j hj => e j (by omega)), e n (by omega)]
theorem LF.refl (m : Mem) : LF m m := fun _ _ _ => rfl
theorem LF.trans {m m2 m3 : Mem} (h : LF m m2) (h2 : LF m2 m3) : LF m m3 := fun k a b => (h2 k a b).trans (h k a b)
theorem LF.nl {m m2 : Mem} (h : LF m m2) : nLk m2 0 = nLk m 0 := by
  unfold nLk
  rw [h (LA 0) (by decide) (by decide)]
theorem LF.lk {m m2 : Mem} (h : LF m m2) {j o : Nat} (hj : j < 5) (ho : o < 4) : m2.1 (LK 0 j + o) = m.1 (LK 0 j + o) := h _ (by unfold LK; rw [LA_0]; omega) (by unfold LK; rw [LA_0]; omega)
theorem LF.ice {m m2 : Mem} (h : LF m m2) {j : Nat} (hj : j < 5) : iceV m2 0 j = iceV m 0 j := by
  unfold iceV nLy
  rw [h.lk hj (o := 1) (by omega), show m2.1 (LK 0 j) = m.1 (LK 0 j) from h.lk hj (o := 0) (by omega)]
