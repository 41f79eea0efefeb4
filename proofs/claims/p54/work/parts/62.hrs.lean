/-! what is told of hours ahead, and what happens -/
def hrF (t0 : Int32) (f : Nat → Bool) : Nat → Int32 | 0 => t0 | q + 1 => if hrF t0 f q < 0 ∧ f q = true then nI (q + 1) else hrF t0 f q
theorem hr_none {t0 : Int32} {f : Nat → Bool} : ∀ q, (∀ p, p < q → f p = false) → hrF t0 f q = t0
  | 0, _ => rfl
  | q + 1, h => by
    show (if hrF t0 f q < 0 ∧ f q = true then nI (q + 1) else hrF t0 f q) = t0
    rw [if_neg (fun z => by rw [h q (by omega)] at z; exact absurd z.2 (by decide)), hr_none q (fun p hp => h p (by omega))]
theorem hr_keep {t0 : Int32} {f : Nat → Bool} (h0 : ¬ t0 < 0) : ∀ q, hrF t0 f q = t0
  | 0 => rfl
  | q + 1 => by
    show (if hrF t0 f q < 0 ∧ f q = true then nI (q + 1) else hrF t0 f q) = t0
    rw [hr_keep h0 q, if_neg (fun z => h0 z.1)]
theorem hr_some {t0 : Int32} {f : Nat → Bool} {n : Nat} (h0 : t0 < 0) (hn : f n = true) (hp : ∀ p, p < n → f p = false) (hn9 : n < 1000) : ∀ d, hrF t0 f (n + 1 + d) = nI (n + 1)
  | 0 => by
    show (if hrF t0 f n < 0 ∧ f n = true then nI (n + 1) else hrF t0 f n) = nI (n + 1)
    rw [hr_none n hp, if_pos ⟨h0, hn⟩]
  | d + 1 => by
    show (if hrF t0 f (n + 1 + d) < 0 ∧ f (n + 1 + d) = true then nI (n + 1 + d + 1) else hrF t0 f (n + 1 + d)) = nI (n + 1)
    rw [hr_some h0 hn hp hn9 d, if_neg (fun z => nI_lt0 (show n + 1 < 1000000 by omega) z.1)]
/-- nothing but the trial has changed -/
def TR1 (m M : Mem) : Prop := M.2 = m.2 ∧ ∀ k, (k < 31 ∨ 61 ≤ k) → M.1 k = m.1 k
theorem TR1.refl (m : Mem) : TR1 m m := ⟨rfl, fun _ _ => rfl⟩
theorem TR1.trans {m M M' : Mem} (h : TR1 m M) (h2 : TR1 M M') : TR1 m M' := ⟨h2.1.trans h.1, fun k a => (h2.2 k a).trans (h.2 k a)⟩
theorem TR1.iv {g : xG} {K : Nat} {m M : Mem} (h : TR1 m M) (hV : IV g K m) : IV g K M := hV.same h.1 (fun k a _ => h.2 k a)
theorem TR1.sm {m M : Mem} (h : TR1 m M) (hL : LW m 0) : Sm m M 0 0 := Agr.sm (fun o ho => h.2 _ (by rw [LA_0]; omega)) hL.nl5
theorem tri_LW {m : Mem} (hL : LW m 0) : Sm m (cpLand 1 0 m) 0 1 ∧ LW (cpLand 1 0 m) 1 := by
  have hs := cpLand_sm (i := 1) (i2 := 0) (m := m) (by decide) hL.nl5
  exact ⟨hs, hs.lw hL⟩
theorem tri_TR {m : Mem} (hL : LW m 0) (q : Nat) : TR1 m (hoursM 1 (cpLand 1 0 m) q) :=
  ⟨(two_hours 1 _ q).trans (two_cpLand 1 0 m), fun k hk => by
    rw [hoursM_cell (tri_LW hL).2 (by rw [LA_1]; omega), cpLand_cell hL.nl5 (by rw [LA_1]; omega)]⟩
def fC (m : Mem) (q : Nat) : Bool := decide (0 < hourN 0 (hoursM 0 m q))
def fT (m : Mem) (z q : Nat) : Bool := decide (z < nLk m 0 ∧ nLy (hoursM 0 m (q + 1)) 0 z = 0)
def t0T (m : Mem) (z : Nat) : Int32 := if z < nLk m 0 ∧ nLy m 0 z = 0 then 0 else -2004
theorem crack_told {m m2 : Mem} {v : Int32} (hL : LW m 0) (h : (∃ n, n < 96 ∧ v = nI (n + 1) ∧ (∀ p, p < n → hourN 1 (hoursM 1 (cpLand 1 0 m) p) = 0) ∧ 0 < hourN 1 (hoursM 1 (cpLand 1 0 m) n) ∧ m2 = hoursM 1 (cpLand 1 0 m) (n + 1)) ∨ (v = -2004 ∧ (∀ p, p < 96 → hourN 1 (hoursM 1 (cpLand 1 0 m) p) = 0) ∧ m2 = hoursM 1 (cpLand 1 0 m) 96)) : v = hrF (-2004) (fC m) 96 ∧ TR1 m m2 := by
  obtain ⟨hs, hL1⟩ := tri_LW hL
  have he : ∀ p, hourN 1 (hoursM 1 (cpLand 1 0 m) p) = hourN 0 (hoursM 0 m p) := fun p => (hs.hours hL p).2
  rcases h with ⟨n, hn, hv, h1, h2, hm⟩ | ⟨hv, h1, hm⟩
  · refine ⟨?_, hm ▸ tri_TR hL _⟩
    rw [hv]
    obtain ⟨d, hd⟩ : ∃ d, 96 = n + 1 + d := ⟨95 - n, by omega⟩
    rw [hd]
    rw [hr_some (f := fC m) (by decide) (decide_eq_true (by rw [← he]; exact h2)) (fun p hp => decide_eq_false (by rw [← he, h1 p hp]; omega)) (by omega)]
  · refine ⟨?_, hm ▸ tri_TR hL _⟩
    rw [hv, hr_none (f := fC m) 96 (fun p hp => decide_eq_false (by rw [← he, h1 p hp]; omega))]
theorem thaw_told {m M m2 : Mem} {v : Int32} {z : Nat} (hL : LW m 0) (hT : TR1 m M) (hz : z < nLk m 0) (h : (nLy M 0 z = 0 ∧ v = 0 ∧ m2 = M) ∨ (¬ nLy M 0 z = 0 ∧ ((∃ n, n < 96 ∧ v = nI (n + 1) ∧ (∀ p, p < n → ¬ nLy (hoursM 1 (cpLand 1 0 M) (p + 1)) 1 z = 0) ∧ nLy (hoursM 1 (cpLand 1 0 M) (n + 1)) 1 z = 0 ∧ m2 = hoursM 1 (cpLand 1 0 M) (n + 1)) ∨ (v = -2004 ∧ (∀ p, p < 96 → ¬ nLy (hoursM 1 (cpLand 1 0 M) (p + 1)) 1 z = 0) ∧ m2 = hoursM 1 (cpLand 1 0 M) 96)))) : v = hrF (t0T m z) (fT m z) 96 ∧ TR1 m m2 := by
  have hs0 := hT.sm hL
  have hLM := hs0.lw hL
  obtain ⟨hs, hL1⟩ := tri_LW hLM
  have hs1 := hs0.trans hs
  have he : ∀ p, nLy (hoursM 1 (cpLand 1 0 M) p) 1 z = nLy (hoursM 0 m p) 0 z := fun p => (hs1.hours hL p).1.ny (by rw [(hours_LW hL p).2]; exact hz)
  have e0 : nLy M 0 z = nLy m 0 z := hs0.ny hz
  rw [e0] at h
  rcases h with ⟨h0, rfl, rfl⟩ | ⟨h0, h⟩
  · refine ⟨?_, hT⟩
    have : t0T m z = 0 := if_pos ⟨hz, h0⟩
    rw [this, hr_keep (by decide)]
  · have ht : t0T m z = -2004 := if_neg (fun w => h0 w.2)
    rw [ht]
    rcases h with ⟨n, hn, hv, h1, h2, hm⟩ | ⟨hv, h1, hm⟩
    · refine ⟨?_, hT.trans (hm ▸ tri_TR hLM _)⟩
      rw [hv]
      obtain ⟨d, hd⟩ : ∃ d, 96 = n + 1 + d := ⟨95 - n, by omega⟩
      rw [hd]
      rw [hr_some (f := fT m z) (by decide) (decide_eq_true ⟨hz, by rw [← he]; exact h2⟩) (fun p hp => decide_eq_false (fun w => h1 p hp (by rw [he]; exact w.2))) (by omega)]
    · refine ⟨?_, hT.trans (hm ▸ tri_TR hLM _)⟩
      rw [hv, hr_none (f := fT m z) 96 (fun p hp => decide_eq_false (fun w => h1 p hp (by rw [he]; exact w.2)))]
theorem thaw_out {m : Mem} {z : Nat} (hz : ¬ z < nLk m 0) : hrF (t0T m z) (fT m z) 96 = -2004 := by
  rw [hr_none (f := fT m z) 96 (fun p _ => decide_eq_false (fun w => hz w.1))]
  exact if_neg (fun w => hz w.1)
/-- after q hours, with the start kept in the snapshot -/
def HQ (g : xG) (K : Nat) (m : Mem) (q : Nat) (M : Mem) : Prop := IV g (K + 8 * q) M ∧ Sm (hoursM 0 m q) M 0 0 ∧ Sm m M 0 2 ∧ M.1 0 3 = 1
theorem HQ.start {g : xG} {K : Nat} {m M : Mem} (hV : IV g K m) (hT : TR1 m M) : HQ g K m 0 (saveM M) := by
  have hM := hT.iv hV
  have hs0 := hT.sm hV.lw
  have hs : Sm m (saveM M) 0 0 := hs0.trans ((save_agr hM.ci).sm hM.lw.nl5)
  refine ⟨⟨save_CI hM.ci, hV.xl.sm hV.lw hs, hV.xc.sm hs, hV.pi.sm hV.lw hs, hM.bw.cv (two_save M) (save_cell hM.ci (by decide) (by omega)) (save_cell hM.ci (by decide) (by omega)), hV.wq.sm hV.lw hs⟩, hs, hs0.trans (save_sm hM.ci), up_same _ _ _ _⟩
theorem HQ.step {g : xG} {K : Nat} {m M : Mem} {q : Nat} (hL : LW m 0) (h : HQ g K m q M) : HQ g K m (q + 1) (hoursM 0 (rem M) 1) ∧ hoursN 0 (rem M) 1 = hourN 0 (hoursM 0 m q) := by
  obtain ⟨hV, h0, h2, h3⟩ := h
  have hLq := (hours_LW hL q).1
  have ha := rem_agr hV.lw (i := 0) (by omega)
  have hLr := (rem_LW hV.lw).1
  have hs := h0.trans (ha.sm hV.lw.nl5)
  have hh := hs.hour hLq
  have hk : ∀ k, (k = 0 ∨ (61 ≤ k ∧ k < 91)) → (hoursM 0 (rem M) 1).1 k = M.1 k := fun k hk => by
    rw [hoursM_cell hLr (by rw [LA_0]; omega), show (rem M).1 k = M.1 k from remH_cell hV.lw.nl5 (by have := LA_3 (hw M); omega) (by omega)]
  have hn2 : nLk M 2 ≤ 5 := by rw [h2.nl]; exact hL.nl5
  refine ⟨⟨(hV.hours 1).mono (by omega), hh.1, h2.trans (Agr.sm (fun o ho => hk _ (by rw [LA_2]; omega)) hn2), ?_⟩, ?_⟩
  · rw [hk 0 (Or.inl rfl)]; exact h3
  · show 0 + hourN 0 (rem M) = _
    rw [Nat.zero_add]
    exact hh.2
theorem HQ.back {g : xG} {K : Nat} {m M : Mem} {q : Nat} (hV : IV g K m) (h : HQ g K m q M) : IV g K (restM M) ∧ Sm m (restM M) 0 0 := by
  obtain ⟨hM, -, h2, h3⟩ := h
  have hS : LW M 2 := h2.lw hV.lw
  have hs := h2.trans (rest_sm hS)
  exact ⟨⟨rest_CI hM.ci h3 hS, hV.xl.sm hV.lw hs, hV.xc.sm hs, hV.pi.sm hV.lw hs, hM.bw.cv (two_rest M) (rest_cell hS (by omega) (by decide)) (rest_cell hS (by omega) (by decide)), hV.wq.sm hV.lw hs⟩, hs⟩
theorem r_pass1 {g : xG} (hG : GK g) {K : Nat} {m M : Mem} {q : Nat} (hL : LW m 0) (h : HQ g K m q M) : CC g yX9_pass (.code yX9_pass cX9_pass 2 (some .int)) 7 1 6 [.ref (ad g 0), .int 1] M (rI (fun v m2 => v = nI (hourN 0 (hoursM 0 m q)) ∧ HQ g K m (q + 1) m2)) noX := by
  have hf : passF 1 = 45 := by decide
  refine (c_X9_pass hG h.1.ci).imp (fun r m' hq => ?_) (fun E m' hq => by rw [hf] at hq; exact fE45 hq.1)
  obtain ⟨v, e, -, h1, h2⟩ := hq
  obtain ⟨s1, s2⟩ := h.step hL
  refine ⟨v, e, ?_, ?_⟩
  · rw [h1]; exact congrArg nI s2
  · rw [h2]; exact s1
theorem r_restore {g : xG} (hG : GK g) {M : Mem} (hI : CI M) (h3 : M.1 0 3 = 1) : CC g yX9_restore (.code yX9_restore cX9_restore 1 (some .int)) 3 1 6 [.ref (ad g 0)] M (rI (fun _ m2 => m2 = restM M)) noX := by
  refine (c_X9_restore hG hI).imp (fun r m' hq => ?_) (fun E m' hq => by rw [h3] at hq; exact absurd hq.2.1 (by decide))
  obtain ⟨v, e, -, -, h2⟩ := hq
  exact ⟨v, e, h2⟩
