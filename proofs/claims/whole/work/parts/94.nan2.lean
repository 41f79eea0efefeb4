/-! the share of ice, widened, is a number that is itself -/
def nfB (b : Nat) : Bool := (List.range (b / 2 + 1)).all fun a => decide (FP.f2d (FP.fdiv (FP.i2f (nI a)) (FP.i2f (nI b))) &&& 0x7fffffffffffffff ≤ 0x7ff0000000000000)
theorem nf_0 : (List.range 48).all (fun b => nfB (20 + b)) = true := by decide +kernel
theorem nf_1 : (List.range 48).all (fun b => nfB (68 + b)) = true := by decide +kernel
theorem nf_2 : (List.range 48).all (fun b => nfB (116 + b)) = true := by decide +kernel
theorem nf_3 : (List.range 48).all (fun b => nfB (164 + b)) = true := by decide +kernel
theorem nf_4 : (List.range 48).all (fun b => nfB (212 + b)) = true := by decide +kernel
theorem nf_5 : (List.range 48).all (fun b => nfB (260 + b)) = true := by decide +kernel
theorem nf_6 : (List.range 48).all (fun b => nfB (308 + b)) = true := by decide +kernel
theorem nf_7 : (List.range 48).all (fun b => nfB (356 + b)) = true := by decide +kernel
theorem nf_ok {a b : Nat} (ha : 2 * a ≤ b) (h1 : 20 ≤ b) (h2 : b ≤ 400) : vf_n64 (FP.f2d (FP.fdiv (FP.i2f (nI a)) (FP.i2f (nI b)))) := by
  have h : nfB b = true := by
    obtain ⟨k, hk, e⟩ : ∃ k, k < 48 ∧ (b = 20 + k ∨ b = 68 + k ∨ b = 116 + k ∨ b = 164 + k ∨ b = 212 + k ∨ b = 260 + k ∨ b = 308 + k ∨ b = 356 + k) := ⟨(b - 20) % 48, by omega, by omega⟩
    have hm := List.mem_range.mpr hk
    rcases e with e | e | e | e | e | e | e | e
    · rw [e]; exact List.all_eq_true.mp nf_0 k hm
    · rw [e]; exact List.all_eq_true.mp nf_1 k hm
    · rw [e]; exact List.all_eq_true.mp nf_2 k hm
    · rw [e]; exact List.all_eq_true.mp nf_3 k hm
    · rw [e]; exact List.all_eq_true.mp nf_4 k hm
    · rw [e]; exact List.all_eq_true.mp nf_5 k hm
    · rw [e]; exact List.all_eq_true.mp nf_6 k hm
    · rw [e]; exact List.all_eq_true.mp nf_7 k hm
  have h2 := List.all_eq_true.mp h a (List.mem_range.mpr (by omega))
  unfold vf_n64
  exact of_decide_eq_true h2
theorem vf_toNat {z : UInt64} (h : vf_n64 z) : z.toNat % 9223372036854775808 ≤ 9218868437227405312 := by
  unfold vf_n64 at h
  have h1 := UInt64.le_iff_toNat_le.mp h
  rw [UInt64.toNat_and, show (0x7fffffffffffffff : UInt64).toNat = 2 ^ 63 - 1 from rfl, Nat.and_two_pow_sub_one_eq_mod, show (0x7ff0000000000000 : UInt64).toNat = 9218868437227405312 from rfl] at h1
  exact h1
theorem dec_n64 {n : Nat} (h : n % 9223372036854775808 ≤ 9218868437227405312) : ¬ FP.Core.decode FP.Core.b64 n = .nan := by
  unfold FP.Core.decode FP.Core.fieldE FP.Core.fieldT
  have e1 : FP.Core.b64.tails = 4503599627370496 := rfl
  have e2 : FP.Core.b64.exps = 2048 := rfl
  rw [e1, e2]
  split
  · split
    · intro z; cases z
    · exfalso; omega
  · split
    · intro z; cases z
    · intro z; cases z
theorem dcmp_id {z : UInt64} (h : vf_n64 z) : FP.dcmp z z = some .eq := by
  have h1 := dec_n64 (vf_toNat h)
  show FP.Core.order (FP.Core.decode FP.Core.b64 z.toNat) (FP.Core.decode FP.Core.b64 z.toNat) = some .eq
  generalize FP.Core.decode FP.Core.b64 z.toNat = d at h1
  have hc : ∀ x : Int, compare x x = Ordering.eq := fun x => by simp [compare, compareOfLessAndEq]
  cases d with
  | nan => exact absurd rfl h1
  | inf s => exact congrArg some (hc _)
  | fin s c q => exact congrArg some (hc _)
theorem XL.nf {M : Mem} (h : XL M 0) (hL : LW M 0) {x : Int32} (hx : inL M x) : vf_n64 (FP.f2d (FP.fdiv (FP.i2f (iceV M 0 x.toNatClampNeg)) (FP.i2f (M.1 (LK 0 x.toNatClampNeg) 4)))) := by
  obtain ⟨j, hxe, hj, hjc⟩ := idx_j hx (by have := hL.nl5; omega)
  rw [hjc]
  have h8 := (hL.ln hj).2
  obtain ⟨s, hs, _, hs2⟩ := ice_nat _ (h.1.1 j hj)
  obtain ⟨d1, d2, d3⟩ := h.2.2.2.1 j hj
  obtain ⟨b, hb, e⟩ := nI_of (x := M.1 (LK 0 j) 4) (Int32.not_lt.mpr (Int32.le_trans (show (0 : Int32) ≤ 20 by decide) d1))
  rw [show iceV M 0 j = nI s from hs] at d3 ⊢
  rw [e] at d1 d2 d3 ⊢
  have b1 := (nI_leI (a := 20) (by decide) (by omega)).mp d1
  have b2 := (nI_leI (b := 400) (by omega) (by decide)).mp d2
  rw [show (2 : Int32) * nI s = nI (2 * s) from nI_mulN 2 s] at d3
  have b3 := (nI_leI (by omega) (by omega)).mp d3
  exact nf_ok (by omega) b1 b2
