/-! the reading state and what is written beside it; the places stay in the text -/
theorem rdM_num (m : Mem) (p : Nat) (w : Int32) {k f : Nat} (v : Int32) (h : k ≠ 363) : up (rdM m p w) k f v = rdM (up m k f v) p w := by
  unfold rdM
  refine Prod.ext ?_ rfl
  funext q y
  show (if q = k ∧ y = f then v else (if q = 363 ∧ y = 18 then w else (if q = 363 ∧ y = 17 then nI p else m.1 q y))) = (if q = 363 ∧ y = 18 then w else (if q = 363 ∧ y = 17 then nI p else (if q = k ∧ y = f then v else m.1 q y)))
  by_cases h1 : q = k ∧ y = f
  · rw [if_pos h1, if_neg (fun z => h (h1.1.symm.trans z.1)), if_neg (fun z => h (h1.1.symm.trans z.1)), if_pos h1]
  · rw [if_neg h1, if_neg h1]
theorem rdM_slot (m : Mem) (p : Nat) (w : Int32) {f : Nat} (v : Int32) (h : f ≠ 17) (h2 : f ≠ 18) : up (rdM m p w) 363 f v = rdM (up m 363 f v) p w := by
  unfold rdM
  rw [up_swap _ _ _ _ (Ne.symm h2), up_swap (m := m) _ _ _ (Ne.symm h)]
theorem rdP_N {T : Nat → Int32} {N p : Nat} {lo hi w : Int32} (hp : p ≤ N) : rdP T N p lo hi w ≤ N := by
  unfold rdP
  split
  · rename_i h
    have h2 := h.2
    unfold rdB at h2
    rw [Bool.and_eq_true] at h2
    exact of_decide_eq_true h2.1
  · exact hp
theorem nbP_N {T : Nat → Int32} {N p : Nat} {w : Int32} (hp : p ≤ N) : nbP T N p w ≤ N := by
  unfold nbP
  split
  · exact dgs_N hp
  · exact hp
theorem dgP_N {T : Nat → Int32} {N p : Nat} {w : Int32} (hp : p ≤ N) : dgP T N p w ≤ N := by
  unfold dgP
  split
  · exact nbP_N (rdP_N hp)
  · exact nbP_N hp
