/-! ranks, counted -/
theorem nI_toI {n : Nat} (h : n < 2147483648) : (nI n).toInt = n := by
  unfold nI
  exact Int32.toInt_ofNat_of_lt h
theorem nI_sub_toInt {a b : Nat} (ha : a < 1073741824) (hb : b < 1073741824) : (nI a - nI b).toInt = (a : Int) - b := by
  rw [Int32.toInt_sub, nI_toI (by omega), nI_toI (by omega)]
  exact Int.bmod_eq_of_le (by show -(2 ^ 31 : Int) ≤ (a : Int) - b; omega) (by show (a : Int) - b < _; omega)
theorem nI_sub_pos {a b : Nat} (ha : a < 1073741824) (hb : b < 1073741824) : (0 < nI a - nI b) ↔ b < a := by
  rw [Int32.lt_iff_toInt_lt, nI_sub_toInt ha hb, Int32.toInt_zero]
  omega
theorem nI_sub_eq {a b : Nat} (ha : a < 1073741824) (hb : b < 1073741824) : nI a - nI b = 0 ↔ a = b := by
  rw [← Int32.toInt_inj, nI_sub_toInt ha hb, Int32.toInt_zero]
  omega
theorem nI_inj' {a b : Nat} (ha : a < 1073741824) (hb : b < 1073741824) : nI a = nI b ↔ a = b := by
  rw [← Int32.toInt_inj, nI_toI (by omega), nI_toI (by omega)]
  omega
theorem nI_lt' {a b : Nat} (ha : a < 1073741824) (hb : b < 1073741824) : nI a < nI b ↔ a < b := by
  rw [Int32.lt_iff_toInt_lt, nI_toI (by omega), nI_toI (by omega)]
  omega
abbrev bfP (S C : Nat → Nat) (b a : Nat) : Prop := S a < S b ∨ (S b = S a ∧ (C a < C b ∨ (C b = C a ∧ b < a)))
def cntB (f : Nat → Bool) : Nat → Nat | 0 => 0 | n + 1 => cntB f n + if f n = true then 1 else 0
theorem cntB_le (f : Nat → Bool) : ∀ n, cntB f n ≤ n
  | 0 => Nat.le_refl 0
  | n + 1 => by have := cntB_le f n; show cntB f n + _ ≤ n + 1; split <;> omega
theorem cntB_eq {f h : Nat → Bool} : ∀ n, (∀ b, b < n → f b = h b) → cntB f n = cntB h n
  | 0, _ => rfl
  | n + 1, e => by
    show cntB f n + (if f n = true then 1 else 0) = cntB h n + (if h n = true then 1 else 0)
    rw [cntB_eq n (fun b hb => e b (by omega)), e n (by omega)]
theorem cntB_mono {f h : Nat → Bool} : ∀ n, (∀ b, b < n → f b = true → h b = true) → cntB f n ≤ cntB h n
  | 0, _ => Nat.le_refl 0
  | n + 1, e => by
    have := cntB_mono n (fun b hb => e b (by omega))
    have e2 := e n (by omega)
    show cntB f n + (if f n = true then 1 else 0) ≤ cntB h n + (if h n = true then 1 else 0)
    by_cases hf : f n = true
    · rw [if_pos hf, if_pos (e2 hf)]; omega
    · rw [if_neg hf]; omega
theorem cntB_strict {f h : Nat → Bool} {a : Nat} : ∀ n, (∀ b, b < n → f b = true → h b = true) → a < n → f a = false → h a = true → cntB f n < cntB h n
  | 0, _, h, _, _ => absurd h (by omega)
  | n + 1, e, hn, hf, hh => by
    have e2 := e n (by omega)
    show cntB f n + (if f n = true then 1 else 0) < cntB h n + (if h n = true then 1 else 0)
    by_cases ea : a = n
    · rw [← ea, if_neg (by rw [hf]; decide), if_pos hh, ea]
      have := cntB_mono n (fun b hb => e b (by omega))
      omega
    · have := cntB_strict n (fun b hb => e b (by omega)) (by omega) hf hh
      by_cases hfn : f n = true
      · rw [if_pos hfn, if_pos (e2 hfn)]; omega
      · rw [if_neg hfn]; omega
theorem bf_inj {S C : Nat → Nat} {n a a' : Nat} (ha : a < n) (ha' : a' < n) (h : cntB (fun b => decide (bfP S C b a)) n = cntB (fun b => decide (bfP S C b a')) n) : a = a' := by
  have key : ∀ x y, x < n → bfP S C x y → cntB (fun b => decide (bfP S C b x)) n < cntB (fun b => decide (bfP S C b y)) n := fun x y hx hxy =>
    cntB_strict (a := x) n (fun b _ hb => decide_eq_true (by have := of_decide_eq_true hb; unfold bfP at *; omega)) hx (decide_eq_false (by unfold bfP; omega)) (decide_eq_true hxy)
  by_cases e : a = a'
  · exact e
  · have : bfP S C a a' ∨ bfP S C a' a := by unfold bfP; omega
    rcases this with h1 | h1
    · have := key _ _ ha h1; omega
    · have := key _ _ ha' h1; omega
theorem firstI_un {p : Nat → Bool} {q : Nat} (hu : ∀ a, a < q → p a = true → p q = false) : firstI p (q + 1) = if p q = true then nI q else firstI p q := by
  have hn : ∀ q, (∀ a, a < q → p a = false) → firstI p q = -1 := by
    intro q
    induction q with
    | zero => intro _; rfl
    | succ q ih =>
      intro h
      show (if firstI p q = -1 then (if p q = true then nI q else -1) else firstI p q) = -1
      rw [if_pos (ih (fun a ha => h a (by omega))), if_neg (by rw [h q (by omega)]; decide)]
  show (if firstI p q = -1 then (if p q = true then nI q else -1) else firstI p q) = _
  by_cases hp : p q = true
  · have h0 : firstI p q = -1 := hn q (fun a ha => by
      cases hb : p a
      · rfl
      · have := hu a ha hb
        rw [hp] at this
        exact absurd this (by decide))
    rw [if_pos h0, if_pos hp, if_pos hp]
  · rw [if_neg hp, if_neg hp]
    by_cases h0 : firstI p q = -1
    · rw [if_pos h0, h0]
    · rw [if_neg h0]
/-! pairs and different ones, counted in any order -/
def sN (F : Nat → Nat) : Nat → Nat | 0 => 0 | n + 1 => sN F n + F n
theorem sN_eq {F G : Nat → Nat} : ∀ n, (∀ p, p < n → G p = F p) → sN G n = sN F n
  | 0, _ => rfl
  | n + 1, h => by show sN G n + G n = sN F n + F n; rw [sN_eq n (fun p hp => h p (by omega)), h n (by omega)]
theorem sN_at {F G : Nat → Nat} {p0 d : Nat} : ∀ n, p0 < n → (∀ p, p < n → p ≠ p0 → G p = F p) → G p0 = F p0 + d → sN G n = sN F n + d
  | 0, h, _, _ => absurd h (by omega)
  | n + 1, h, ho, hd => by
    show sN G n + G n = sN F n + F n + d
    by_cases e : p0 = n
    · rw [sN_eq (F := F) n (fun p hp => ho p (by omega) (by omega)), ← e, hd]; omega
    · rw [sN_at n (by omega) (fun p hp => ho p (by omega)) hd, ho n (by omega) (by omega)]; omega
def tri2 (k : Nat) : Nat := k * (k - 1) / 2
theorem tri2_s (k : Nat) : tri2 (k + 1) = tri2 k + k := by
  unfold tri2
  cases k with
  | zero => rfl
  | succ k =>
    show (k + 1 + 1) * (k + 1) / 2 = (k + 1) * k / 2 + (k + 1)
    have : (k + 1 + 1) * (k + 1) = (k + 1) * k + (k + 1) * 2 := by rw [← Nat.mul_add, Nat.mul_comm]
    rw [this, Nat.add_mul_div_right _ _ (by decide)]
def echN (h : Nat → Int32) : Nat → Nat | 0 => 0 | n + 1 => echN h n + cntEq h (h n) n
def difN (h : Nat → Int32) : Nat → Nat | 0 => 0 | n + 1 => difN h n + if cntEq h (h n) n = 0 then 1 else 0
def inR (h : Nat → Int32) (n : Nat) : Prop := ∀ r, r < n → ∃ p, p < 141 ∧ h r = nI p
theorem cntEq_s (h : Nat → Int32) (x : Int32) (n : Nat) : cntEq h x (n + 1) = cntEq h x n + if x = h n then 1 else 0 := rfl
theorem nI_ne {a b : Nat} (ha : a < 1000000) (hb : b < 1000000) (h : a ≠ b) : nI a ≠ nI b := fun z => h ((nI_inj' (by omega) (by omega)).mp z)
theorem ech_tri {h : Nat → Int32} : ∀ n, inR h n → echN h n = sN (fun p => tri2 (cntEq h (nI p) n)) 141
  | 0, _ => by
    have : ∀ n, sN (fun p => tri2 (cntEq h (nI p) 0)) n = 0 := by
      intro n
      induction n with
      | zero => rfl
      | succ n ih => show sN _ n + tri2 0 = 0; rw [ih]; rfl
    exact (this 141).symm
  | n + 1, hr => by
    obtain ⟨p0, hp0, e0⟩ := hr n (by omega)
    show echN h n + cntEq h (h n) n = _
    rw [ech_tri n (fun r hr' => hr r (by omega)), e0]
    refine (sN_at (p0 := p0) 141 hp0 (fun p hp hne => ?_) ?_).symm
    · show tri2 (cntEq h (nI p) (n + 1)) = tri2 (cntEq h (nI p) n)
      rw [cntEq_s, e0, if_neg (nI_ne (by omega) (by omega) hne), Nat.add_zero]
    · show tri2 (cntEq h (nI p0) (n + 1)) = tri2 (cntEq h (nI p0) n) + _
      rw [cntEq_s, e0, if_pos rfl, tri2_s]
theorem difN_pos {h : Nat → Int32} : ∀ n, inR h n → difN h n = sN (fun p => if 0 < cntEq h (nI p) n then 1 else 0) 141
  | 0, _ => by
    have : ∀ n, sN (fun p => if 0 < cntEq h (nI p) 0 then 1 else 0) n = 0 := by
      intro n
      induction n with
      | zero => rfl
      | succ n ih => show sN _ n + (if 0 < 0 then 1 else 0) = 0; rw [ih]; rfl
    exact (this 141).symm
  | n + 1, hr => by
    obtain ⟨p0, hp0, e0⟩ := hr n (by omega)
    show difN h n + (if cntEq h (h n) n = 0 then 1 else 0) = _
    rw [difN_pos n (fun r hr' => hr r (by omega)), e0]
    refine (sN_at (p0 := p0) 141 hp0 (fun p hp hne => ?_) ?_).symm
    · show (if 0 < cntEq h (nI p) (n + 1) then 1 else 0) = if 0 < cntEq h (nI p) n then 1 else 0
      rw [cntEq_s, e0, if_neg (nI_ne (by omega) (by omega) hne), Nat.add_zero]
    · show (if 0 < cntEq h (nI p0) (n + 1) then 1 else 0) = (if 0 < cntEq h (nI p0) n then 1 else 0) + _
      rw [cntEq_s, e0, if_pos rfl, if_pos (by omega)]
      by_cases c : cntEq h (nI p0) n = 0
      · rw [if_neg (by omega), if_pos c]
      · rw [if_pos (by omega), if_neg c]
theorem pairs_more {f : Nat → Int32} {c : Nat} : ∀ i, i ≤ c → pairsN f (c + 1) i = pairsN f c i + cntEq f (f c) i
  | 0, _ => rfl
  | i + 1, hi => by
    show pairsN f (c + 1) i + (cntEq f (f i) (c + 1) - cntEq f (f i) (i + 1)) = pairsN f c i + (cntEq f (f i) c - cntEq f (f i) (i + 1)) + (cntEq f (f c) i + if f c = f i then 1 else 0)
    rw [pairs_more i (by omega), cntEq_s f (f i) c]
    have hm : cntEq f (f i) (i + 1) ≤ cntEq f (f i) c := cntEq_mono f (f i) (a := i + 1) (n := c) (by omega)
    by_cases e : f c = f i
    · rw [if_pos e, if_pos e.symm]; omega
    · rw [if_neg e, if_neg (fun z => e z.symm)]; omega
theorem pairs_ech {f : Nat → Int32} : ∀ c, pairsN f c c = echN f c
  | 0 => rfl
  | c + 1 => by
    show pairsN f (c + 1) c + (cntEq f (f c) (c + 1) - cntEq f (f c) (c + 1)) = echN f c + cntEq f (f c) c
    rw [pairs_more c (Nat.le_refl c), pairs_ech c, Nat.sub_self, Nat.add_zero]
theorem cntEq_eq {f h : Nat → Int32} {x : Int32} : ∀ n, (∀ k, k < n → h k = f k) → cntEq h x n = cntEq f x n
  | 0, _ => rfl
  | n + 1, e => by rw [cntEq_s, cntEq_s, cntEq_eq n (fun k hk => e k (by omega)), e n (by omega)]
theorem cntEq_add (f : Nat → Int32) (x : Int32) (a : Nat) : ∀ b, cntEq f x (a + b) = cntEq f x a + cntEq (fun k => f (a + k)) x b
  | 0 => rfl
  | b + 1 => by
    show cntEq f x (a + b) + (if x = f (a + b) then 1 else 0) = cntEq f x a + (cntEq (fun k => f (a + k)) x b + if x = f (a + b) then 1 else 0)
    rw [cntEq_add f x a b]; omega
theorem cntEq_rev {x : Int32} : ∀ (n : Nat) (f h : Nat → Int32), (∀ k, k < n → h k = f (n - 1 - k)) → cntEq h x n = cntEq f x n
  | 0, _, _, _ => rfl
  | n + 1, f, h, e => by
    have h1 := cntEq_add f x 1 n
    have h2 : cntEq h x n = cntEq (fun k => f (1 + k)) x n := cntEq_rev n _ h (fun k hk => by
      rw [e k (by omega)]
      show f (n + 1 - 1 - k) = f (1 + (n - 1 - k))
      congr 1
      omega)
    rw [Nat.add_comm n 1, h1, Nat.add_comm 1 n, cntEq_s, h2, e n (by omega), show n + 1 - 1 - n = 0 by omega]
    show _ = (0 + if x = f 0 then 1 else 0) + _
    omega
/-- the recencies' order against the places' -/
theorem ring_cnt {f h : Nat → Int32} {x : Int32} {w c : Nat} (hw : w < 16) (hc : c ≤ 16) (hwc : c < 16 → w = c) (e : ∀ q, q < c → h q = f ((w + 15 - q) % 16)) : cntEq h x c = cntEq f x c := by
  by_cases h16 : c = 16
  · subst h16
    have a1 := cntEq_add h x w (16 - w)
    have a2 := cntEq_add f x w (16 - w)
    rw [show w + (16 - w) = 16 by omega] at a1 a2
    rw [a1, a2]
    rw [cntEq_rev w f h (fun k hk => by rw [e k (by omega)]; congr 1; omega)]
    rw [cntEq_rev (16 - w) (fun k => f (w + k)) (fun k => h (w + k)) (fun k hk => by
      show h (w + k) = f (w + (16 - w - 1 - k))
      rw [e (w + k) (by omega)]; congr 1; omega)]
  · have := hwc (by omega)
    subst this
    exact cntEq_rev w f h (fun k hk => by rw [e k hk]; congr 1; omega)
theorem cntEq_bd (f : Nat → Int32) (x : Int32) (n : Nat) : cntEq f x n ≤ n := cntEq_le f x n
theorem cntPos_sN {F : Nat → Nat} : ∀ n, (∀ p, p < n → F p < 1000000) → cntPos (fun p => nI (F p)) n = sN (fun p => if 0 < F p then 1 else 0) n
  | 0, _ => rfl
  | n + 1, h => by
    show cntPos (fun p => nI (F p)) n + (if 0 < nI (F n) then 1 else 0) = sN (fun p => if 0 < F p then 1 else 0) n + (if 0 < F n then 1 else 0)
    rw [cntPos_sN n (fun p hp => h p (by omega))]
    have hb := h n (by omega)
    have q : (0 < nI (F n)) ↔ 0 < F n := nI_lt' (a := 0) (by decide) (by omega)
    by_cases c : 0 < F n
    · rw [if_pos c, if_pos (q.mpr c)]
    · rw [if_neg c, if_neg (fun z => c (q.mp z))]
theorem half_tri {k : Nat} (h : k ≤ 16) : nI k * (nI k - 1) / 2 = nI (tri2 k) := by
  have q : ∀ k, k ≤ 16 → nI k * (nI k - 1) / 2 = nI (tri2 k) := by decide +kernel
  exact q k h
theorem sum_tri {F : Nat → Nat} : ∀ n, (∀ p, p < n → F p ≤ 16) → l_sum (fun p => nI (F p) * (nI (F p) - 1) / 2) n = nI (sN (fun p => tri2 (F p)) n)
  | 0, _ => rfl
  | n + 1, h => by
    show l_sum (fun p => nI (F p) * (nI (F p) - 1) / 2) n + nI (F n) * (nI (F n) - 1) / 2 = nI (sN (fun p => tri2 (F p)) n + tri2 (F n))
    rw [sum_tri n (fun p hp => h p (by omega)), half_tri (h n (by omega)), nI_add]
/-! the class's ranks and the rings' pitches, so counted -/
theorem rk_bf {M : Mem} {i n : Nat} {S C : Nat → Nat} {K : Nat} (hK : K ≤ 1000000000) (hS : ∀ j, j < n → iceV M i j = nI (S j) ∧ S j ≤ 400) (hC : ∀ j, j < n → M.1 (LK i j) 5 = nI (C j) ∧ C j ≤ K) {a b : Nat} (ha : a < n) (hb : b < n) : (decide (b ≠ a) && rkB M i b a) = decide (bfP S C b a) := by
  obtain ⟨sa, sa4⟩ := hS a ha
  obtain ⟨sb, sb4⟩ := hS b hb
  obtain ⟨ca, cak⟩ := hC a ha
  obtain ⟨cb, cbk⟩ := hC b hb
  unfold rkB
  rw [sa, sb, ca, cb, Bool.eq_iff_iff, Bool.and_eq_true, decide_eq_true_eq, decide_eq_true_eq]
  have e1 := nI_inj' (a := S b) (b := S a) (by omega) (by omega)
  have e2 := nI_inj' (a := C b) (b := C a) (by omega) (by omega)
  have l1 := nI_lt' (a := S a) (b := S b) (by omega) (by omega)
  have l2 := nI_lt' (a := C a) (b := C b) (by omega) (by omega)
  by_cases h1 : S b = S a
  · rw [if_pos (e1.mpr h1)]
    by_cases h2 : C b = C a
    · rw [if_pos (e2.mpr h2), decide_eq_true_eq]
      unfold bfP
      omega
    · rw [if_neg (fun z => h2 (e2.mp z)), decide_eq_true_eq, l2]
      unfold bfP
      constructor
      · intro h; omega
      · intro h
        refine ⟨fun z => h2 (by rw [z]), by omega⟩
  · rw [if_neg (fun z => h1 (e1.mp z)), decide_eq_true_eq, l1]
    unfold bfP
    constructor
    · intro h; omega
    · intro h
      refine ⟨fun z => h1 (by rw [z]), by omega⟩
theorem rank_bf {M : Mem} {i n : Nat} {S C : Nat → Nat} {K : Nat} (hK : K ≤ 1000000000) (hS : ∀ j, j < n → iceV M i j = nI (S j) ∧ S j ≤ 400) (hC : ∀ j, j < n → M.1 (LK i j) 5 = nI (C j) ∧ C j ≤ K) {a : Nat} (ha : a < n) : ∀ q, q ≤ n → rankN M i a q = cntB (fun b => decide (bfP S C b a)) q
  | 0, _ => rfl
  | q + 1, hq => by
    show rankN M i a q + (if (decide (q ≠ a) && rkB M i q a) = true then 1 else 0) = cntB (fun b => decide (bfP S C b a)) q + (if decide (bfP S C q a) = true then 1 else 0)
    rw [rank_bf hK hS hC ha q (by omega), rk_bf hK hS hC ha (by omega)]
/-- the recencies' pitches -/
def pit (M : Mem) (i q : Nat) : Int32 := M.1 (LA i + 8) (psl M i q)
theorem pit_cnt {M : Mem} {i : Nat} (hP : PR M i (wOf M i) (cOf M i)) (hL : PL M i) (x : Int32) : cntEq (pit M i) x (cOf M i) = cntEq (M.1 (LA i + 8)) x (cOf M i) :=
  ring_cnt hP.2.1 hP.2.2.2 hL (fun q _ => rfl)
theorem pit_in {M : Mem} {i : Nat} (h : ∀ y, y < 16 → 0 ≤ M.1 (LA i + 8) y ∧ M.1 (LA i + 8) y ≤ 140) : (∀ n, inR (pit M i) n) ∧ ∀ n, n ≤ 16 → inR (M.1 (LA i + 8)) n := by
  have q : ∀ y, y < 16 → ∃ p, p < 141 ∧ M.1 (LA i + 8) y = nI p := fun y hy => by
    obtain ⟨h1, h2⟩ := h y hy
    obtain ⟨p, hp, e⟩ := nI_of (Int32.not_lt.mpr h1)
    rw [e] at h2
    exact ⟨p, by have := (nI_leI (b := 140) (by omega) (by decide)).mp h2; omega, e⟩
  exact ⟨fun n r _ => q _ (Nat.mod_lt _ (by decide)), fun n hn r hr => q r (by omega)⟩
theorem ech_pairs {M : Mem} {i : Nat} (hP : PR M i (wOf M i) (cOf M i)) (hL : PL M i) (h : ∀ y, y < 16 → 0 ≤ M.1 (LA i + 8) y ∧ M.1 (LA i + 8) y ≤ 140) : echN (pit M i) (cOf M i) = pairsN (M.1 (LA i + 8)) (cOf M i) (cOf M i) ∧ difN (pit M i) (cOf M i) = cntPos (fun p => nI (cntEq (M.1 (LA i + 8)) (nI p) (cOf M i))) 141 ∧ l_sum (fun p => nI (cntEq (M.1 (LA i + 8)) (nI p) (cOf M i)) * (nI (cntEq (M.1 (LA i + 8)) (nI p) (cOf M i)) - 1) / 2) 141 = nI (pairsN (M.1 (LA i + 8)) (cOf M i) (cOf M i)) := by
  obtain ⟨i1, i2⟩ := pit_in h
  have hc := hP.2.2.2
  have hle : ∀ x, cntEq (M.1 (LA i + 8)) x (cOf M i) ≤ 16 := fun x => Nat.le_trans (cntEq_le _ _ _) hc
  refine ⟨?_, ?_, ?_⟩
  · rw [ech_tri _ (i1 _), pairs_ech, ech_tri _ (i2 _ hc)]
    exact sN_eq _ (fun p _ => by show tri2 _ = tri2 _; rw [pit_cnt hP hL])
  · rw [difN_pos _ (i1 _), cntPos_sN _ (fun p _ => by have := hle (nI p); omega)]
    exact sN_eq _ (fun p _ => by show (if _ then 1 else 0) = if _ then 1 else 0; rw [pit_cnt hP hL])
  · rw [sum_tri _ (fun p _ => hle (nI p)), pairs_ech, ech_tri _ (i2 _ hc)]
theorem csB_ok {M : Mem} (hL : LW M 0) (hX : XL M 0) (hC : PL M 0) : csB M := by
  refine ⟨(ech_pairs hL.2.2.2.1 hC hX.2.2.2.2).2.2.symm, ?_⟩
  have hla : LA 0 = 1 := rfl
  have hc : ∀ k, k ≠ 362 → (tlyM M).1 k = M.1 k := fun k h => setRow_cell _ _ h
  have en : nLk (tlyM M) 0 = nLk M 0 := by unfold nLk; rw [hc _ (by omega)]
  rw [hc _ (by omega), en, hX.2.2.1]
  refine (sum_eq _ (fun y hy => ?_)).symm
  have h5 := hL.nl5
  have hlk : LK 0 y = LA 0 + 10 + 4 * y := rfl
  unfold iceV nLy
  rw [hc _ (by omega), hc _ (by omega)]
