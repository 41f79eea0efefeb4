/-! our quotients are numbers -/
def nnB64 (s : Nat) : Bool := (List.range 8).all fun n => decide (FP.ddiv (FP.i2d (0 - nI s)) (FP.i2d (nI (n + 1))) &&& 0x7fffffffffffffff ≤ 0x7ff0000000000000)
def nnB32 (b : Nat) : Bool := (List.range 201).all fun a => decide (FP.fdiv (FP.i2f (nI a)) (FP.i2f (nI b)) &&& 0x7fffffff ≤ 0x7f800000)
theorem nn64_a : (List.range 321).all nnB64 = true := by decide +kernel
theorem nn64 {s n : Nat} (hs : s ≤ 320) (h1 : 1 ≤ n) (h8 : n ≤ 8) : vf_n64 (FP.ddiv (FP.i2d (0 - nI s)) (FP.i2d (nI n))) := by
  obtain ⟨k, rfl⟩ : ∃ k, n = k + 1 := ⟨n - 1, by omega⟩
  have h := List.all_eq_true.mp nn64_a s (List.mem_range.mpr (by omega))
  unfold vf_n64
  exact of_decide_eq_true (List.all_eq_true.mp h k (List.mem_range.mpr (by omega)))
theorem nn32_0 : (List.range 48).all (fun b => nnB32 (20 + b)) = true := by decide +kernel
theorem nn32_1 : (List.range 48).all (fun b => nnB32 (68 + b)) = true := by decide +kernel
theorem nn32_2 : (List.range 48).all (fun b => nnB32 (116 + b)) = true := by decide +kernel
theorem nn32_3 : (List.range 48).all (fun b => nnB32 (164 + b)) = true := by decide +kernel
theorem nn32_4 : (List.range 48).all (fun b => nnB32 (212 + b)) = true := by decide +kernel
theorem nn32_5 : (List.range 48).all (fun b => nnB32 (260 + b)) = true := by decide +kernel
theorem nn32_6 : (List.range 48).all (fun b => nnB32 (308 + b)) = true := by decide +kernel
theorem nn32_7 : (List.range 48).all (fun b => nnB32 (356 + b)) = true := by decide +kernel
theorem nn32 {a b : Nat} (ha : a ≤ 200) (h1 : 20 ≤ b) (h2 : b ≤ 400) : vf_n32 (FP.fdiv (FP.i2f (nI a)) (FP.i2f (nI b))) := by
  have h : nnB32 b = true := by
    obtain ⟨k, hk, e⟩ : ∃ k, k < 48 ∧ (b = 20 + k ∨ b = 68 + k ∨ b = 116 + k ∨ b = 164 + k ∨ b = 212 + k ∨ b = 260 + k ∨ b = 308 + k ∨ b = 356 + k) := ⟨(b - 20) % 48, by omega, by omega⟩
    have hm := List.mem_range.mpr hk
    rcases e with e | e | e | e | e | e | e | e
    · rw [e]; exact List.all_eq_true.mp nn32_0 k hm
    · rw [e]; exact List.all_eq_true.mp nn32_1 k hm
    · rw [e]; exact List.all_eq_true.mp nn32_2 k hm
    · rw [e]; exact List.all_eq_true.mp nn32_3 k hm
    · rw [e]; exact List.all_eq_true.mp nn32_4 k hm
    · rw [e]; exact List.all_eq_true.mp nn32_5 k hm
    · rw [e]; exact List.all_eq_true.mp nn32_6 k hm
    · rw [e]; exact List.all_eq_true.mp nn32_7 k hm
  unfold vf_n32
  exact of_decide_eq_true (List.all_eq_true.mp h a (List.mem_range.mpr (by omega)))
