/-! which word the reference finds -/
def wlO (w : Nat) : Nat := stO (w + 1) - stO w
def mtB (T : Nat → Int32) (N p o k : Nat) : Bool := decide (p + k < N) && decide (T (p + k) = nmB.getD (o + k) 0)
def mtC (T : Nat → Int32) (N p o : Nat) : Nat → Nat → Nat
  | 0, k => k
  | f + 1, k => if mtB T N p o k = true then mtC T N p o f (k + 1) else k
theorem mtC_le {T : Nat → Int32} {N p o : Nat} : ∀ f k, mtC T N p o f k ≤ k + f
  | 0, k => Nat.le_refl k
  | f + 1, k => by
    show (if mtB T N p o k = true then mtC T N p o f (k + 1) else k) ≤ k + (f + 1)
    split
    · have := mtC_le (T := T) (N := N) (p := p) (o := o) f (k + 1); omega
    · omega
theorem mtC_N {T : Nat → Int32} {N p o : Nat} : ∀ f k, p + k ≤ N → p + mtC T N p o f k ≤ N
  | 0, k, h => h
  | f + 1, k, h => by
    show p + (if mtB T N p o k = true then mtC T N p o f (k + 1) else k) ≤ N
    split
    · rename_i hb
      unfold mtB at hb
      rw [Bool.and_eq_true] at hb
      have := of_decide_eq_true hb.1
      exact mtC_N f (k + 1) (by omega)
    · exact h
def khS (T : Nat → Int32) (N p : Nat) : Nat → Nat × Int32
  | 0 => (p, -1)
  | w + 1 => if (khS T N p w).2 = -1 then (max (khS T N p w).1 (p + mtC T N p (stO w) (wlO w) 0), if mtC T N p (stO w) (wlO w) 0 = wlO w then nI w else -1) else khS T N p w
theorem khS_in {T : Nat → Int32} {N p : Nat} (hp : p ≤ N) : ∀ w, (khS T N p w).1 ≤ N
  | 0 => hp
  | w + 1 => by
    show (if (khS T N p w).2 = -1 then (max (khS T N p w).1 (p + mtC T N p (stO w) (wlO w) 0), if mtC T N p (stO w) (wlO w) 0 = wlO w then nI w else -1) else khS T N p w).1 ≤ N
    split
    · have h1 := khS_in (T := T) hp w
      have h2 := mtC_N (T := T) (p := p) (o := stO w) (wlO w) 0 hp
      show max _ _ ≤ N
      omega
    · exact khS_in hp w
theorem khS_stay {T : Nat → Int32} {N p w : Nat} (h : ¬ (khS T N p w).2 = -1) : ∀ d, khS T N p (w + d) = khS T N p w
  | 0 => rfl
  | d + 1 => by
    have := khS_stay h d
    show (if (khS T N p (w + d)).2 = -1 then _ else khS T N p (w + d)) = _
    rw [this, if_neg h]
theorem khS_kind {T : Nat → Int32} {N p : Nat} : ∀ w, (khS T N p w).2 = -1 ∨ ∃ k, k < w ∧ (khS T N p w).2 = nI k
  | 0 => Or.inl rfl
  | w + 1 => by
    show (if (khS T N p w).2 = -1 then (max (khS T N p w).1 (p + mtC T N p (stO w) (wlO w) 0), if mtC T N p (stO w) (wlO w) 0 = wlO w then nI w else -1) else khS T N p w).2 = -1 ∨ ∃ k, k < w + 1 ∧ (if (khS T N p w).2 = -1 then (max (khS T N p w).1 (p + mtC T N p (stO w) (wlO w) 0), if mtC T N p (stO w) (wlO w) 0 = wlO w then nI w else -1) else khS T N p w).2 = nI k
    split
    · show (if _ then _ else _) = _ ∨ ∃ k, k < w + 1 ∧ (if mtC T N p (stO w) (wlO w) 0 = wlO w then nI w else -1) = nI k
      split
      · exact Or.inr ⟨w, by omega, rfl⟩
      · exact Or.inl rfl
    · rcases khS_kind (T := T) (N := N) (p := p) w with h | ⟨k, hk, e⟩
      · exact Or.inl h
      · exact Or.inr ⟨k, by omega, e⟩
