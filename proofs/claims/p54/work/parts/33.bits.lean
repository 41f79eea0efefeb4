/-! small rows kept of the text part -/
theorem b01 {b : Bool} (h : ¬ (if b = true then (1 : Int32) else 0) = 0) : b = true := by
  cases b
  · exact absurd rfl h
  · rfl
theorem b00 {b : Bool} (h : (if b = true then (1 : Int32) else 0) = 0) : b = false := by
  cases b
  · rfl
  · exact absurd h (by decide)
theorem bnar (b : Bool) : narrow .boolean (.int (if b = true then (1 : Int32) else 0)) = .int (if b = true then 1 else 0) := by cases b <;> rfl
theorem up_id {m : Mem} {k f : Nat} {v : Int32} (h : m.1 k f = v) : up m k f v = m := by
  refine Prod.ext ?_ rfl
  funext q j
  show (if q = k ∧ j = f then v else m.1 q j) = m.1 q j
  split
  · rename_i e; rw [e.1, e.2, h]
  · rfl
theorem up_up (m : Mem) (k f : Nat) (v w : Int32) : up (up m k f v) k f w = up m k f w := by
  refine Prod.ext ?_ rfl
  funext q j
  show (if q = k ∧ j = f then w else if q = k ∧ j = f then v else m.1 q j) = (if q = k ∧ j = f then w else m.1 q j)
  split <;> rfl
