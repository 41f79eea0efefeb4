theorem LA_1 : LA 1 = 31 := rfl
/-! what the constructors have laid, as a memory -/
def isLk (k : Nat) : Bool := if k < 91 then decide (10 ≤ (k - 1) % 30) && decide (((k - 1) % 30 - 10) % 4 = 0) else if 93 ≤ k ∧ k < 333 then decide (10 ≤ (k - 3) % 30) && decide (((k - 3) % 30 - 10) % 4 = 0) else false
def m0c (k : Nat) : Nat → Int32 := if k = 0 then (fun j => if j = 6 then -1 else if j = 7 then -1 else if j = 8 then 45 else 0) else if isLk k = true then (fun j => if j = 4 then 20 else 0) else fun _ => 0
def m00 : Mem := (m0c, 361, 16)
def lkC (o : Nat) : Nat → Int32 := if 10 ≤ o ∧ (o - 10) % 4 = 0 then (fun j => if j = 4 then 20 else 0) else fun _ => 0
theorem m0_land {i o : Nat} (hi : i < 11) (ho : o < 30) : m0c (LA i + o) = lkC o := by
  have hk : (LA i + o < 91 ∧ (LA i + o - 1) % 30 = o) ∨ (93 ≤ LA i + o ∧ LA i + o < 333 ∧ (LA i + o - 3) % 30 = o) := by
    unfold LA
    split <;> omega
  have hk1 : 1 ≤ LA i := by unfold LA; split <;> omega
  unfold m0c lkC isLk
  rw [if_neg (show ¬ LA i + o = 0 by omega)]
  rcases hk with ⟨h1, h2⟩ | ⟨h1, h2, h3⟩
  · rw [if_pos (show LA i + o < 91 from h1), h2]
    by_cases c : 10 ≤ o ∧ (o - 10) % 4 = 0
    · rw [if_pos c, if_pos (by rw [decide_eq_true c.1, decide_eq_true c.2]; rfl)]
    · rw [if_neg c, if_neg (by intro z; rw [Bool.and_eq_true] at z; exact c ⟨of_decide_eq_true z.1, of_decide_eq_true z.2⟩)]
  · rw [if_neg (show ¬ LA i + o < 91 by omega), if_pos (show 93 ≤ LA i + o ∧ LA i + o < 333 from ⟨h1, h2⟩), h3]
    by_cases c : 10 ≤ o ∧ (o - 10) % 4 = 0
    · rw [if_pos c, if_pos (by rw [decide_eq_true c.1, decide_eq_true c.2]; rfl)]
    · rw [if_neg c, if_neg (by intro z; rw [Bool.and_eq_true] at z; exact c ⟨of_decide_eq_true z.1, of_decide_eq_true z.2⟩)]
theorem refRow_eq (g : xG) (t n : Nat) {f f2 : Nat → Nat} (h : ∀ y, y < n → f y = f2 y) : refRow g t n f n = (.inl (g.2.2.1 t, n, .inr (.inr (.inr (.inr (fun y => if y < n then some (f2 y) else none))))) : va_E) := by
  unfold refRow
  have e : (fun y => if y < n then some (f y) else none : Nat → Option Nat) = fun y => if y < n then some (f2 y) else none := by
    funext y
    by_cases c : y < n
    · rw [if_pos c, if_pos c, h y c]
    · rw [if_neg c, if_neg c]
  rw [e]
theorem land_pic (g : xG) (i o : Nat) (ho : o < 30) : landP g (ad g (LA i)) 5 o = landCell g i o (lkC o) := by
  rcases (by omega : o = 0 ∨ o = 1 ∨ o = 2 ∨ o = 3 ∨ o = 4 ∨ o = 5 ∨ o = 6 ∨ o = 7 ∨ o = 8 ∨ o = 9 ∨ o = 10 ∨ o = 11 ∨ o = 12 ∨ o = 13 ∨ o = 14 ∨ o = 15 ∨ o = 16 ∨ o = 17 ∨ o = 18 ∨ o = 19 ∨ o = 20 ∨ o = 21 ∨ o = 22 ∨ o = 23 ∨ o = 24 ∨ o = 25 ∨ o = 26 ∨ o = 27 ∨ o = 28 ∨ o = 29) with rfl | rfl | rfl | rfl | rfl | rfl | rfl | rfl | rfl | rfl | rfl | rfl | rfl | rfl | rfl | rfl | rfl | rfl | rfl | rfl | rfl | rfl | rfl | rfl | rfl | rfl | rfl | rfl | rfl | rfl
  · rfl
  · exact refRow_eq g 6 5 (fun y _ => by unfold ad LK; omega)
  all_goals rfl
theorem m0_at {g : xG} {i o : Nat} (hi : i < 11) (ho : o < 30) : cellAt g m00 (LA i + o) = some (landP g (ad g (LA i)) 5 o) := by
  rw [ca_low hi ho m00, land_pic g i o ho]
  show some (landCell g i o (m0c (LA i + o))) = _
  rw [m0_land hi ho]
theorem bells_at (g : xG) {k : Nat} (hk : k < 363) : hp g m00 (ad g k) = some (bellsP g (ad g 0) k) := by
  by_cases c361 : k = 361
  · subst c361
    exact hp_sb (m := m00) (g := g) rfl
  refine hp_at ?_
  by_cases c0 : k = 0
  · subst c0; rfl
  have e1 : ad g (LA 0) = ad g 0 + 1 := rfl
  have e2 : ad g (LA 1) = ad g 0 + 31 := rfl
  have e3 : ad g (LA 2) = ad g 0 + 61 := rfl
  unfold bellsP
  rw [if_neg c0]
  by_cases c1 : k < 31
  · rw [if_pos c1, ← e1]
    have := m0_at (g := g) (i := 0) (o := k - 1) (by omega) (by omega)
    rw [show LA 0 + (k - 1) = k by rw [LA_0]; omega] at this
    exact this
  rw [if_neg c1]
  by_cases c2 : k < 61
  · rw [if_pos c2, ← e2]
    have := m0_at (g := g) (i := 1) (o := k - 31) (by omega) (by omega)
    rw [show LA 1 + (k - 31) = k by rw [LA_1]; omega] at this
    exact this
  rw [if_neg c2]
  by_cases c3 : k < 91
  · rw [if_pos c3, ← e3]
    have := m0_at (g := g) (i := 2) (o := k - 61) (by omega) (by omega)
    rw [show LA 2 + (k - 61) = k by rw [LA_2]; omega] at this
    exact this
  rw [if_neg c3]
  by_cases c4 : k < 333
  · rw [if_pos c4]
    unfold histP
    by_cases d0 : k = 91
    · subst d0; rfl
    by_cases d1 : k = 92
    · subst d1
      exact congrArg some (refRow_eq g 7 8 (fun y _ => by rw [LA_3]; unfold ad; omega)).symm
    · rw [if_neg (by omega), if_neg (by omega)]
      have := m0_at (g := g) (i := 3 + (k - 93) / 30) (o := (k - 93) % 30) (by omega) (by omega)
      rw [show LA (3 + (k - 93) / 30) + (k - 93) % 30 = k by rw [LA_3]; omega] at this
      rw [this, show ad g (LA (3 + (k - 93) / 30)) = ad g 0 + 91 + (2 + 30 * ((k - 91 - 2) / 30)) by rw [LA_3]; unfold ad; omega, show (k - 93) % 30 = (k - 91 - 2) % 30 by omega]
  rw [if_neg c4]
  by_cases c5 : k < 360
  · rw [if_pos c5]
    rcases (by omega : k = 333 ∨ k = 334 ∨ k = 335 ∨ k = 336 ∨ k = 337 ∨ k = 338 ∨ k = 339 ∨ k = 340 ∨ k = 341 ∨ k = 342 ∨ k = 343 ∨ k = 344 ∨ k = 345 ∨ k = 346 ∨ k = 347 ∨ k = 348 ∨ k = 349 ∨ k = 350 ∨ k = 351 ∨ k = 352 ∨ k = 353 ∨ k = 354 ∨ k = 355 ∨ k = 356 ∨ k = 357 ∨ k = 358 ∨ k = 359) with rfl | rfl | rfl | rfl | rfl | rfl | rfl | rfl | rfl | rfl | rfl | rfl | rfl | rfl | rfl | rfl | rfl | rfl | rfl | rfl | rfl | rfl | rfl | rfl | rfl | rfl | rfl
    · rfl
    · rfl
    · exact congrArg some (refRow_eq g 5 12 (fun y _ => by unfold ad CM; omega)).symm
    all_goals rfl
  rw [if_neg c5]
  rcases (by omega : k = 360 ∨ k = 362) with rfl | rfl
  · rfl
  · rfl
def startP (g : xG) : xH := px (fun _ => none) (ad g 0) 363 (bellsP g (ad g 0))
theorem start_pic (g : xG) (hx0 : ∀ a, ex g a = none) : startP g = hp g m00 := by
  have ea : ∀ k, ad g k = g.1.heap.size + k := fun _ => rfl
  funext q
  unfold startP px
  by_cases h0 : q < g.1.heap.size
  · rw [if_neg (by rw [ea]; omega)]
    unfold hp
    rw [if_pos h0]
  obtain ⟨k, rfl⟩ : ∃ k, q = ad g k := ⟨q - g.1.heap.size, by rw [ea]; omega⟩
  by_cases c1 : k < 363
  · rw [if_pos (by rw [ea, ea]; omega), show ad g k - ad g 0 = k by rw [ea, ea]; omega]
    exact (bells_at g c1).symm
  · rw [if_neg (by rw [ea, ea]; omega)]
    unfold hp
    rw [if_neg h0, show ad g k - g.1.heap.size = k by rw [ea]; omega, cell_none (Or.inr (by omega))]
    dsimp only
    rw [if_neg (show ¬ k = m00.2.1 by show ¬ k = 361; omega)]
    exact (hx0 _).symm
