/-! the invariant at the start -/
theorem m0_z {k : Nat} (h0 : k ≠ 0) (h3 : k ≠ 363) (hl : isLk k = false) : m00.1 k = fun _ => 0 := by
  show m0c k = _
  unfold m0c
  rw [if_neg h0, if_neg h3, hl, if_neg Bool.false_ne_true]
theorem z91 : m00.1 91 = fun _ => 0 := m0_z (by decide) (by decide) (by decide)
theorem z364 : m00.1 364 = fun _ => 0 := m0_z (by decide) (by decide) (by decide)
theorem zLA : m00.1 (LA 0) = fun _ => 0 := m0_z (by decide) (by decide) (by decide)
theorem zLAo {o : Nat} (ho : o < 10) : m00.1 (LA 0 + o) = fun _ => 0 := by
  rcases (by omega : o = 0 ∨ o = 1 ∨ o = 2 ∨ o = 3 ∨ o = 4 ∨ o = 5 ∨ o = 6 ∨ o = 7 ∨ o = 8 ∨ o = 9) with rfl | rfl | rfl | rfl | rfl | rfl | rfl | rfl | rfl | rfl <;> exact m0_z (by decide) (by decide) (by decide)
theorem n0L : nLk m00 0 = 0 := by unfold nLk; rw [zLA]; rfl
theorem n0W : nWn m00 0 = 0 := by unfold nWn; rw [zLAo (by decide)]; rfl
theorem n0P : wOf m00 0 = 0 ∧ cOf m00 0 = 0 := by unfold wOf cOf; rw [zLAo (by decide)]; exact ⟨rfl, rfl⟩
theorem lwS0 : LW m00 0 := by
  refine ⟨⟨by rw [n0L, zLA]; rfl, by rw [n0L]; omega⟩, fun j hj => by rw [n0L] at hj; omega, ⟨by rw [n0W, zLAo (by decide)]; rfl, by rw [n0W]; omega⟩, ⟨by rw [n0P.1, zLAo (by decide)]; rfl, by rw [n0P.1]; omega, by rw [n0P.2, zLAo (by decide)]; rfl, by rw [n0P.2]; omega⟩, fun y _ => by rw [zLAo (by decide)]; rfl⟩
theorem hcS0 : hc m00 = 0 ∧ hw m00 = 0 := by unfold hc hw; rw [z91]; exact ⟨rfl, rfl⟩
theorem ciS0 : CI m00 := by
  refine ⟨lwS0, ⟨by rw [hcS0.2, z91]; rfl, by rw [hcS0.2]; omega, by rw [hcS0.1, z91]; rfl, by rw [hcS0.1]; omega⟩, fun q hq => by rw [hcS0.1] at hq; omega, Or.inl rfl⟩
theorem rmS0 : RM (m00.1 364) m00 0 := by
  rw [z364]
  have hmL : mL (fun _ => 0) = 0 := rfl
  refine ⟨⟨⟨rfl, by rw [hmL]; omega⟩, fun j _ => ⟨rfl, Nat.zero_le _⟩, ⟨rfl, Nat.zero_le _⟩, ⟨rfl, Nat.zero_le _⟩⟩, lwS0, by rw [n0L, hmL], ⟨by rw [zLA], by rw [zLA], by rw [zLA], by rw [zLA]⟩, fun j hj => by rw [n0L] at hj; omega, ⟨by rw [n0W]; rfl, fun w hw => by rw [n0W] at hw; omega⟩, by rw [n0P.2]; rfl, fun q hq => by rw [n0P.2] at hq; omega⟩
theorem xlS0 : XL m00 0 := by
  refine ⟨⟨fun j hj => by rw [n0L] at hj; omega, by rw [zLA]; decide⟩, ⟨fun w hw => by rw [n0W] at hw; omega, fun a b _ hb => by rw [n0W] at hb; omega⟩, ?_, fun j hj => by rw [n0L] at hj; omega, fun y _ => by rw [zLAo (by decide)]; exact (show (0 : Int32) ≤ 0 ∧ (0 : Int32) ≤ 140 by decide)⟩
  rw [n0L, zLA]
  rfl
theorem jsS0 : JS m00 m00 := by
  refine ⟨⟨rmS0, xlS0⟩, ciS0, by rw [hcS0.1]; rfl, fun q hq => by rw [hcS0.1] at hq; omega, rfl, fun h => absurd h (by decide)⟩
theorem xiS0 : XI 0 m00 := by
  refine ⟨⟨fun j hj => by rw [n0L] at hj; omega, fun _ => by rw [n0P.1, n0P.2]⟩, fun q hq => by rw [hcS0.1] at hq; omega, fun h => absurd h (by decide)⟩
theorem jtS0 : JT m00 := by
  have z333 : m00.1 333 = fun _ => 0 := m0_z (by decide) (by decide) (by decide)
  have z334 : m00.1 334 = fun _ => 0 := m0_z (by decide) (by decide) (by decide)
  have z360 : m00.1 360 = fun _ => 0 := m0_z (by decide) (by decide) (by decide)
  have z361 : m00.1 361 = fun _ => 0 := m0_z (by decide) (by decide) (by decide)
  have z370 : m00.1 370 = fun _ => 0 := m0_z (by decide) (by decide) (by decide)
  have etN : tN m00 = 0 := by unfold tN; rw [z333]; rfl
  refine ⟨⟨by rw [etN, z333]; rfl, by omega, 0, by rw [z333]; rfl, by omega⟩, by rw [etN]; rfl, by rw [z370, z334], rfl, rfl, fun h => absurd rfl h, rfl, rfl, [], ⟨⟨by rw [z360]; rfl, Nat.zero_le _, by decide, Or.inl rfl, fun j _ => by rw [z361]; rfl⟩, fun j hj => absurd hj (Nat.not_lt_zero j)⟩, fun j hj => absurd hj (Nat.not_lt_zero j), rfl, by decide, fun j hj => absurd hj (Nat.not_lt_zero j)⟩
theorem jaS0 : JA 0 m00 := ⟨jsS0, xiS0, jtS0⟩
